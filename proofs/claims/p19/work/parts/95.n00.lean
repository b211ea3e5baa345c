set_option maxRecDepth 100000 in
set_option maxHeartbeats 8000000 in
theorem NL_277_37 {X : pm_X} {d : Nat} {wc : pm_W} {Q : pm_R → Prop} {f : Nat → Int32} {A0 : Nat → List Int32} (hc : wc.length = 147) (hk0 : (∀ j : Int, (0) ≤ j → j < (100) → 0 ≤ ((A0 160).getD j.toNat 0).toInt ∧ ((A0 160).getD j.toNat 0).toInt ≤ 0)) (hk1 : (∀ j : Int, (0) ≤ j → j < (100) → 0 ≤ ((A0 161).getD j.toNat 0).toInt ∧ ((A0 161).getD j.toNat 0).toInt ≤ 0)) (hk2 : (∀ j : Int, (0) ≤ j → j < (100) → 0 ≤ ((A0 162).getD j.toNat 0).toInt ∧ ((A0 162).getD j.toNat 0).toInt ≤ 0)) (k_56_0 : ∀ (A' : Nat → List Int32) (y1 : Int32), MI f A' → (∀ k : Nat, k ≠ 163 → A' k = A0 k) → (10 ≤ y1.toInt ∧ y1.toInt ≤ 10) → (∀ j : Int, (0) ≤ j → j < (y1.toInt) → 0 ≤ ((A' 163).getD j.toNat 0).toInt ∧ ((A' 163).getD j.toNat 0).toInt ≤ 0) → pmE pg X pg_tyl pg_cl (d) 277 56 [.ref 147, .int y1] [] (md wc f A') Q) : ∀ (m : Nat) (A : Nat → List Int32) (x1 : Int32), MI f A → (∀ k : Nat, k ≠ 163 → A k = A0 k) → (0 ≤ x1.toInt ∧ x1.toInt ≤ 10) → (∀ j : Int, (0) ≤ j → j < (x1.toInt) → 0 ≤ ((A 163).getD j.toNat 0).toInt ∧ ((A 163).getD j.toNat 0).toInt ≤ 0) → 10 - x1.toInt < (m : Int) → pmE pg X pg_tyl pg_cl (d) 277 37 [.ref 147, .int x1] [] (md wc f A) Q := by
  intro m
  induction m with
  | zero =>
    intro A x1 hI hF gx1 hv0 hm
    exfalso
    have l0 := zi_lo x1
    have u0 := zi_hi x1
    omega
  | succ m ih =>
    intro A x1 hI hF gx1 hv0 hm
    refine pe_iload_n (j := 1) (by decide +kernel) rfl ?_
    refine pe_bipushv (n := 10) (v := 10) (by decide +kernel) (by decide +kernel) ?_
    refine pz_icmp_ge (off := 16) (t := 56) (by decide +kernel) (by decide) rfl rfl kz_10 (fun h1 => ?_) (fun h1 => ?_)
    · skip
      have hq2 : (∀ j : Int, (0) ≤ j → j < (x1.toInt) → 0 ≤ ((A 163).getD j.toNat 0).toInt ∧ ((A 163).getD j.toNat 0).toInt ≤ 0) := by
        intro j h1 h2
        first
        | (exfalso; omega)
        | exact hv0 j (by omega) (by omega)
      exact k_56_0 A x1 hI (fun k n163 => (hF k n163)) (by omega) hq2
    · skip
      refine pe_aload_n (j := 0) (by decide +kernel) rfl ?_
      refine pe_get (j := 56) (ci := 12) (n := 28) (by decide +kernel) (by decide +kernel) (md_o hc) rfl ?_
      refine pe_iload_n (j := 1) (by decide +kernel) rfl ?_
      refine pe_iconstv (n := 0) (v := 0) (by decide +kernel) (by decide +kernel) ?_
      refine mz_st163 (by decide +kernel) hc hI rfl (by omega) (by omega) (fun A3 eA3 hIA3 => ?_)
      refine pz_iinc (j := 1) (n := 1) (by decide +kernel) rfl rfl (by decide +kernel) (by omega) (by omega) (fun z4 hz4 => ?_)
      show pmE pg X pg_tyl pg_cl (d) 277 53 [.ref 147, .int z4] [] (md wc f A3) _
      refine pe_goto (off := (-16)) (t := 37) (by decide +kernel) (by decide) rfl ?_
      have hq5 : (∀ j : Int, (0) ≤ j → j < (z4.toInt) → 0 ≤ ((A3 163).getD j.toNat 0).toInt ∧ ((A3 163).getD j.toNat 0).toInt ≤ 0) := by
        intro j h1 h2
        first
        | (exfalso; omega)
        | (by_cases e : (x1.toInt).toNat = j.toNat
           · rw [upa_at eA3, ← e, gz_eq (by rw [(mlen_163 hI)]; omega), kz_0]; omega
           · rw [upa_at eA3, gz_ne e]; exact hv0 j (by omega) (by omega))
      exact ih A3 z4 hIA3 (fun k n163 => (upa_fr eA3 n163).trans ((hF k n163))) (by omega) hq5 (by omega)
set_option maxRecDepth 100000 in
set_option maxHeartbeats 8000000 in
theorem NL_277_2 {X : pm_X} {d : Nat} {wc : pm_W} {Q : pm_R → Prop} {f : Nat → Int32} {A0 : Nat → List Int32} (hc : wc.length = 147) (k_35_0 : ∀ (A' : Nat → List Int32) (y1 : Int32), MI f A' → (∀ k : Nat, k ≠ 160 → k ≠ 161 → k ≠ 162 → A' k = A0 k) → (100 ≤ y1.toInt ∧ y1.toInt ≤ 100) → (∀ j : Int, (0) ≤ j → j < (y1.toInt) → 0 ≤ ((A' 160).getD j.toNat 0).toInt ∧ ((A' 160).getD j.toNat 0).toInt ≤ 0) → (∀ j : Int, (0) ≤ j → j < (y1.toInt) → 0 ≤ ((A' 161).getD j.toNat 0).toInt ∧ ((A' 161).getD j.toNat 0).toInt ≤ 0) → (∀ j : Int, (0) ≤ j → j < (y1.toInt) → 0 ≤ ((A' 162).getD j.toNat 0).toInt ∧ ((A' 162).getD j.toNat 0).toInt ≤ 0) → pmE pg X pg_tyl pg_cl (d) 277 35 [.ref 147, .int y1] [] (md wc f A') Q) : ∀ (m : Nat) (A : Nat → List Int32) (x1 : Int32), MI f A → (∀ k : Nat, k ≠ 160 → k ≠ 161 → k ≠ 162 → A k = A0 k) → (0 ≤ x1.toInt ∧ x1.toInt ≤ 100) → (∀ j : Int, (0) ≤ j → j < (x1.toInt) → 0 ≤ ((A 160).getD j.toNat 0).toInt ∧ ((A 160).getD j.toNat 0).toInt ≤ 0) → (∀ j : Int, (0) ≤ j → j < (x1.toInt) → 0 ≤ ((A 161).getD j.toNat 0).toInt ∧ ((A 161).getD j.toNat 0).toInt ≤ 0) → (∀ j : Int, (0) ≤ j → j < (x1.toInt) → 0 ≤ ((A 162).getD j.toNat 0).toInt ∧ ((A 162).getD j.toNat 0).toInt ≤ 0) → 100 - x1.toInt < (m : Int) → pmE pg X pg_tyl pg_cl (d) 277 2 [.ref 147, .int x1] [] (md wc f A) Q := by
  intro m
  induction m with
  | zero =>
    intro A x1 hI hF gx1 hv0 hv1 hv2 hm
    exfalso
    have l0 := zi_lo x1
    have u0 := zi_hi x1
    omega
  | succ m ih =>
    intro A x1 hI hF gx1 hv0 hv1 hv2 hm
    refine pe_iload_n (j := 1) (by decide +kernel) rfl ?_
    refine pe_bipushv (n := 100) (v := 100) (by decide +kernel) (by decide +kernel) ?_
    refine pz_icmp_ge (off := 30) (t := 35) (by decide +kernel) (by decide) rfl rfl kz_100 (fun h1 => ?_) (fun h1 => ?_)
    · skip
      have hq2 : (∀ j : Int, (0) ≤ j → j < (x1.toInt) → 0 ≤ ((A 160).getD j.toNat 0).toInt ∧ ((A 160).getD j.toNat 0).toInt ≤ 0) := by
        intro j h1 h2
        first
        | (exfalso; omega)
        | exact hv0 j (by omega) (by omega)
      have hq3 : (∀ j : Int, (0) ≤ j → j < (x1.toInt) → 0 ≤ ((A 161).getD j.toNat 0).toInt ∧ ((A 161).getD j.toNat 0).toInt ≤ 0) := by
        intro j h1 h2
        first
        | (exfalso; omega)
        | exact hv1 j (by omega) (by omega)
      have hq4 : (∀ j : Int, (0) ≤ j → j < (x1.toInt) → 0 ≤ ((A 162).getD j.toNat 0).toInt ∧ ((A 162).getD j.toNat 0).toInt ≤ 0) := by
        intro j h1 h2
        first
        | (exfalso; omega)
        | exact hv2 j (by omega) (by omega)
      exact k_35_0 A x1 hI (fun k n160 n161 n162 => (hF k n160 n161 n162)) (by omega) hq2 hq3 hq4
    · skip
      refine pe_aload_n (j := 0) (by decide +kernel) rfl ?_
      refine pe_get (j := 47) (ci := 12) (n := 25) (by decide +kernel) (by decide +kernel) (md_o hc) rfl ?_
      refine pe_iload_n (j := 1) (by decide +kernel) rfl ?_
      refine pe_iconstv (n := 0) (v := 0) (by decide +kernel) (by decide +kernel) ?_
      refine mz_st160 (by decide +kernel) hc hI rfl (by omega) (by omega) (fun A5 eA5 hIA5 => ?_)
      refine pe_aload_n (j := 0) (by decide +kernel) rfl ?_
      refine pe_get (j := 50) (ci := 12) (n := 26) (by decide +kernel) (by decide +kernel) (md_o hc) rfl ?_
      refine pe_iload_n (j := 1) (by decide +kernel) rfl ?_
      refine pe_iconstv (n := 0) (v := 0) (by decide +kernel) (by decide +kernel) ?_
      refine mz_st161 (by decide +kernel) hc hIA5 rfl (by omega) (by omega) (fun A6 eA6 hIA6 => ?_)
      refine pe_aload_n (j := 0) (by decide +kernel) rfl ?_
      refine pe_get (j := 53) (ci := 12) (n := 27) (by decide +kernel) (by decide +kernel) (md_o hc) rfl ?_
      refine pe_iload_n (j := 1) (by decide +kernel) rfl ?_
      refine pe_iconstv (n := 0) (v := 0) (by decide +kernel) (by decide +kernel) ?_
      refine mz_st162 (by decide +kernel) hc hIA6 rfl (by omega) (by omega) (fun A7 eA7 hIA7 => ?_)
      refine pz_iinc (j := 1) (n := 1) (by decide +kernel) rfl rfl (by decide +kernel) (by omega) (by omega) (fun z8 hz8 => ?_)
      show pmE pg X pg_tyl pg_cl (d) 277 32 [.ref 147, .int z8] [] (md wc f A7) _
      refine pe_goto (off := (-30)) (t := 2) (by decide +kernel) (by decide) rfl ?_
      have hq9 : (∀ j : Int, (0) ≤ j → j < (z8.toInt) → 0 ≤ ((A7 160).getD j.toNat 0).toInt ∧ ((A7 160).getD j.toNat 0).toInt ≤ 0) := by
        intro j h1 h2
        rw [show A7 160 = A5 160 from (upa_fr eA7 (by decide)).trans (upa_fr eA6 (by decide))]
        first
        | (exfalso; omega)
        | (by_cases e : (x1.toInt).toNat = j.toNat
           · rw [upa_at eA5, ← e, gz_eq (by rw [(mlen_160 hI)]; omega), kz_0]; omega
           · rw [upa_at eA5, gz_ne e]; exact hv0 j (by omega) (by omega))
      have hq10 : (∀ j : Int, (0) ≤ j → j < (z8.toInt) → 0 ≤ ((A7 161).getD j.toNat 0).toInt ∧ ((A7 161).getD j.toNat 0).toInt ≤ 0) := by
        intro j h1 h2
        rw [show A7 161 = A6 161 from upa_fr eA7 (by decide)]
        first
        | (exfalso; omega)
        | (by_cases e : (x1.toInt).toNat = j.toNat
           · rw [upa_at eA6, ← e, gz_eq (by rw [(mlen_161 hIA5)]; omega), kz_0]; omega
           · rw [upa_at eA6, gz_ne e, show A5 161 = A 161 from upa_fr eA5 (by decide)]; exact hv1 j (by omega) (by omega))
      have hq11 : (∀ j : Int, (0) ≤ j → j < (z8.toInt) → 0 ≤ ((A7 162).getD j.toNat 0).toInt ∧ ((A7 162).getD j.toNat 0).toInt ≤ 0) := by
        intro j h1 h2
        first
        | (exfalso; omega)
        | (by_cases e : (x1.toInt).toNat = j.toNat
           · rw [upa_at eA7, ← e, gz_eq (by rw [(mlen_162 hIA6)]; omega), kz_0]; omega
           · rw [upa_at eA7, gz_ne e, show A6 162 = A 162 from (upa_fr eA6 (by decide)).trans (upa_fr eA5 (by decide))]; exact hv2 j (by omega) (by omega))
      exact ih A7 z8 hIA7 (fun k n160 n161 n162 => (upa_fr eA7 n162).trans ((upa_fr eA6 n161).trans ((upa_fr eA5 n160).trans ((hF k n160 n161 n162))))) (by omega) hq9 hq10 hq11 (by omega)
set_option maxRecDepth 100000 in
set_option maxHeartbeats 8000000 in
theorem NM_277 {X : pm_X} {d : Nat} {wc : pm_W} {f : Nat → Int32} {A : Nat → List Int32} (hc : wc.length = 147) (hI : MI f A) : pmE pg X pg_tyl pg_cl (d) 277 0 (pm_ent (pm_max pg 277) [.ref 147]) [] (md wc f A) (fun q => ∃ (A' : Nat → List Int32), q = (none, md wc f A', 0, 0) ∧ MI f A' ∧ (∀ k : Nat, k ≠ 160 → k ≠ 161 → k ≠ 162 → k ≠ 163 → A' k = A k) ∧ (((∀ j : Int, (0) ≤ j → j < (100) → 0 ≤ ((A' 160).getD j.toNat 0).toInt ∧ ((A' 160).getD j.toNat 0).toInt ≤ 0) ∧ (∀ j : Int, (0) ≤ j → j < (100) → 0 ≤ ((A' 161).getD j.toNat 0).toInt ∧ ((A' 161).getD j.toNat 0).toInt ≤ 0) ∧ (∀ j : Int, (0) ≤ j → j < (100) → 0 ≤ ((A' 162).getD j.toNat 0).toInt ∧ ((A' 162).getD j.toNat 0).toInt ≤ 0) ∧ (∀ j : Int, (0) ≤ j → j < (10) → 0 ≤ ((A' 163).getD j.toNat 0).toInt ∧ ((A' 163).getD j.toNat 0).toInt ≤ 0) ∧ True))) := by
  show pmE pg X pg_tyl pg_cl (d) 277 0 [.ref 147, pm_dead] [] (md wc f A) _
  refine pe_iconstv (n := 0) (v := 0) (by decide +kernel) (by decide +kernel) ?_
  refine pe_istore_n (j := 1) (ls' := [.ref 147, .int 0]) (by decide +kernel) (Nat.le_of_ble_eq_true rfl) rfl ?_
  have hq7 : (∀ j : Int, (0) ≤ j → j < ((0 : Int32).toInt) → 0 ≤ ((A 160).getD j.toNat 0).toInt ∧ ((A 160).getD j.toNat 0).toInt ≤ 0) := by
    intro j h1 h2
    have hl_x1 := kz_0
    first
    | (exfalso; omega)
  have hq8 : (∀ j : Int, (0) ≤ j → j < ((0 : Int32).toInt) → 0 ≤ ((A 161).getD j.toNat 0).toInt ∧ ((A 161).getD j.toNat 0).toInt ≤ 0) := by
    intro j h1 h2
    have hl_x1 := kz_0
    first
    | (exfalso; omega)
  have hq9 : (∀ j : Int, (0) ≤ j → j < ((0 : Int32).toInt) → 0 ≤ ((A 162).getD j.toNat 0).toInt ∧ ((A 162).getD j.toNat 0).toInt ≤ 0) := by
    intro j h1 h2
    have hl_x1 := kz_0
    first
    | (exfalso; omega)
  refine NL_277_2 hc (fun A1 y2 hIy3 hFA1 gy2 hq4 hq5 hq6 => ?_) 101 A 0 hI (fun k _ _ _ => rfl) (by decide +kernel) hq7 hq8 hq9 (by decide +kernel)
  refine pe_iconstv (n := 0) (v := 0) (by decide +kernel) (by decide +kernel) ?_
  refine pe_istore_n (j := 1) (ls' := [.ref 147, .int 0]) (by decide +kernel) (Nat.le_of_ble_eq_true rfl) rfl ?_
  have hk10 : (∀ j : Int, (0) ≤ j → j < (100) → 0 ≤ ((A1 160).getD j.toNat 0).toInt ∧ ((A1 160).getD j.toNat 0).toInt ≤ 0) := by
    intro j h1 h2
    first
    | (exfalso; omega)
    | exact hq4 j (by omega) (by omega)
  have hk11 : (∀ j : Int, (0) ≤ j → j < (100) → 0 ≤ ((A1 161).getD j.toNat 0).toInt ∧ ((A1 161).getD j.toNat 0).toInt ≤ 0) := by
    intro j h1 h2
    first
    | (exfalso; omega)
    | exact hq5 j (by omega) (by omega)
  have hk12 : (∀ j : Int, (0) ≤ j → j < (100) → 0 ≤ ((A1 162).getD j.toNat 0).toInt ∧ ((A1 162).getD j.toNat 0).toInt ≤ 0) := by
    intro j h1 h2
    first
    | (exfalso; omega)
    | exact hq6 j (by omega) (by omega)
  have hq17 : (∀ j : Int, (0) ≤ j → j < ((0 : Int32).toInt) → 0 ≤ ((A1 163).getD j.toNat 0).toInt ∧ ((A1 163).getD j.toNat 0).toInt ≤ 0) := by
    intro j h1 h2
    have hl_x1 := kz_0
    rw [show A1 163 = A 163 from (hFA1 163 (by decide) (by decide) (by decide))]
    first
    | (exfalso; omega)
  refine NL_277_37 hc hk10 hk11 hk12 (fun A13 y14 hIy15 hFA13 gy14 hq16 => ?_) 11 A1 0 hIy3 (fun k _ => rfl) (by decide +kernel) hq17 (by decide +kernel)
  have hqr0 : (∀ j : Int, (0) ≤ j → j < (100) → 0 ≤ ((A13 160).getD j.toNat 0).toInt ∧ ((A13 160).getD j.toNat 0).toInt ≤ 0) := by
    intro j h1 h2
    rw [show A13 160 = A1 160 from (hFA13 160 (by decide))]
    first
    | (exfalso; omega)
    | exact hq4 j (by omega) (by omega)
  have hqr1 : (∀ j : Int, (0) ≤ j → j < (100) → 0 ≤ ((A13 161).getD j.toNat 0).toInt ∧ ((A13 161).getD j.toNat 0).toInt ≤ 0) := by
    intro j h1 h2
    rw [show A13 161 = A1 161 from (hFA13 161 (by decide))]
    first
    | (exfalso; omega)
    | exact hq5 j (by omega) (by omega)
  have hqr2 : (∀ j : Int, (0) ≤ j → j < (100) → 0 ≤ ((A13 162).getD j.toNat 0).toInt ∧ ((A13 162).getD j.toNat 0).toInt ≤ 0) := by
    intro j h1 h2
    rw [show A13 162 = A1 162 from (hFA13 162 (by decide))]
    first
    | (exfalso; omega)
    | exact hq6 j (by omega) (by omega)
  have hqr3 : (∀ j : Int, (0) ≤ j → j < (10) → 0 ≤ ((A13 163).getD j.toNat 0).toInt ∧ ((A13 163).getD j.toNat 0).toInt ≤ 0) := by
    intro j h1 h2
    first
    | (exfalso; omega)
    | exact hq16 j (by omega) (by omega)
  exact pe_vret (by decide +kernel) rfl ⟨A13, rfl, hIy15, (fun k n160 n161 n162 n163 => ((hFA13 k n163)).trans ((hFA1 k n160 n161 n162))), ⟨hqr0, hqr1, hqr2, hqr3, trivial⟩⟩
set_option maxRecDepth 100000 in
set_option maxHeartbeats 8000000 in
theorem NL_285_6 {X : pm_X} {d : Nat} {wc : pm_W} {Q : pm_R → Prop} {f : Nat → Int32} {A0 : Nat → List Int32} {x1 x2 : Int32} (hc : wc.length = 147) (gx1 : (610 ≤ x1.toInt ∧ x1.toInt ≤ 742 ∧ (x1.toInt - 610) % 132 = 0)) (k_110_0 : ∀ (A' : Nat → List Int32) (y3 : Int32) (v4 : Value) (v5 : Value), MI f A' → (∀ k : Nat, k ≠ 160 → k ≠ 163 → A' k = A0 k) → (0 ≤ y3.toInt ∧ y3.toInt ≤ 7) → AK A' x1.toInt y3.toInt → pmE pg X pg_tyl pg_cl (d + 1) 285 110 [.ref 147, .int x1, .int x2, .int y3, v4, v5] [] (md wc f A') Q) : ∀ (m : Nat) (A : Nat → List Int32) (x3 : Int32) (u4 : Value) (u5 : Value), MI f A → (∀ k : Nat, k ≠ 160 → k ≠ 163 → A k = A0 k) → (0 ≤ x3.toInt ∧ x3.toInt ≤ 7) → AK A x1.toInt x3.toInt → 7 - x3.toInt < (m : Int) → pmE pg X pg_tyl pg_cl (d + 1) 285 6 [.ref 147, .int x1, .int x2, .int x3, u4, u5] [] (md wc f A) Q := by
  intro m
  induction m with
  | zero =>
    intro A x3 u4 u5 hI hF gx3 hpi0 hm
    exfalso
    have l0 := zi_lo x3
    have u0 := zi_hi x3
    omega
  | succ m ih =>
    intro A x3 u4 u5 hI hF gx3 hpi0 hm
    refine pe_iload_n (j := 3) (by decide +kernel) rfl ?_
    refine pe_aload_n (j := 0) (by decide +kernel) rfl ?_
    refine pe_get (j := 7) (ci := 12) (n := 0) (by decide +kernel) (by decide +kernel) (md_o hc) rfl ?_
    refine pe_iload_n (j := 1) (by decide +kernel) rfl ?_
    refine pe_iconstv (n := 1) (v := 1) (by decide +kernel) (by decide +kernel) ?_
    refine pz_add (by decide +kernel) rfl kz_1 (by omega) (by omega) (fun z1 hz1 => ?_)
    refine pz_iald (by decide +kernel) (md_a148 hc) (mlen_148 hI) hz1 (by omega) (by omega) (fun v2 ev2 => ?_)
    have rv2 : 0 ≤ v2.toInt ∧ v2.toInt ≤ 7 := MT_wants (mt_148 hI ev2 (by omega)) (by omega)
    rw [show A 148 = A0 148 from (hF 148 (by decide) (by decide))] at ev2
    clear hz1
    refine pz_icmp_ge (off := 95) (t := 110) (by decide +kernel) (by decide) rfl rfl rfl (fun h3 => ?_) (fun h3 => ?_)
    · skip
      exact k_110_0 A x3 (u4) (u5) hI (fun k n160 n163 => (hF k n160 n163)) (by omega) hpi0
    · skip
      refine pe_iload_n (j := 2) (by decide +kernel) rfl ?_
      refine pe_iload_n (j := 3) (by decide +kernel) rfl ?_
      refine pw_shr (by decide +kernel) (fun z4 => ?_)
      refine pe_iconstv (n := 1) (v := 1) (by decide +kernel) (by decide +kernel) ?_
      refine pz_and1 (by decide +kernel) (fun z5 hz5 => ?_)
      refine pz_if_ne (off := 6) (t := 29) (by decide +kernel) (by decide) rfl rfl (fun h6 => ?_) (fun h6 => ?_)
      · skip
        refine pe_aload_n (j := 0) (by decide +kernel) rfl ?_
        refine pe_iload_n (j := 1) (by decide +kernel) rfl ?_
        refine pe_iload_n (j := 3) (by decide +kernel) rfl ?_
        refine pe_iconstv (n := 0) (v := 0) (by decide +kernel) (by decide +kernel) ?_
        refine pi_V (j := 172) (mj := 224) (by decide +kernel) (cll_V (args := [.int 0, .int x3, .int x1]) (n := 3) (by decide +kernel) rfl rfl (md_o hc) (by decide +kernel) (Nat.le_of_ble_eq_true rfl) (Nat.le_of_ble_eq_true rfl)) ?_
        show pmE pg X pg_tyl pg_cl (d) 224 0 [.ref 147, .int x1, .int x3, .int 0] [] (md wc f A) _
        refine pe_aload_n (j := 0) (by decide +kernel) rfl ?_
        refine pe_get (j := 7) (ci := 12) (n := 0) (by decide +kernel) (by decide +kernel) (md_o hc) rfl ?_
        refine pe_iload_n (j := 1) (by decide +kernel) rfl ?_
        refine pe_bipushv (n := 102) (v := 102) (by decide +kernel) (by decide +kernel) ?_
        refine pz_add (by decide +kernel) rfl kz_102 (by omega) (by omega) (fun z7 hz7 => ?_)
        refine pe_iconstv (n := 4) (v := 4) (by decide +kernel) (by decide +kernel) ?_
        refine pe_iload_n (j := 2) (by decide +kernel) rfl ?_
        refine pz_mul (by decide +kernel) kz_4 rfl (by omega) (by omega) (fun z8 hz8 => ?_)
        refine pz_add (by decide +kernel) hz7 hz8 (by omega) (by omega) (fun z9 hz9 => ?_)
        clear hz7 hz8
        refine pe_iload_n (j := 3) (by decide +kernel) rfl ?_
        refine pz_add (by decide +kernel) hz9 kz_0 (by omega) (by omega) (fun z10 hz10 => ?_)
        clear hz9
        refine pz_iald (by decide +kernel) (md_a148 hc) (mlen_148 hI) hz10 (by omega) (by omega) (fun v11 ev11 => ?_)
        have rv11 : 0 ≤ v11.toInt ∧ v11.toInt ≤ 8 := MT_want (mt_148 hI ev11 (by omega)) (by omega)
        rw [show A 148 = A0 148 from (hF 148 (by decide) (by decide))] at ev11
        clear hz10
        refine pe_iret (by decide +kernel) rfl rfl ⟨rfl, rfl, ?_⟩
        show pmE pg X pg_tyl pg_cl (d + 1) 285 36 [.ref 147, .int x1, .int x2, .int x3, u4, u5] [.int v11] (md wc f A) _
        refine pe_istore (j := 4) (ls' := [.ref 147, .int x1, .int x2, .int x3, .int v11, u5]) (by decide +kernel) (Nat.le_of_ble_eq_true rfl) rfl ?_
        refine pe_aload_n (j := 0) (by decide +kernel) rfl ?_
        refine pe_iload_n (j := 1) (by decide +kernel) rfl ?_
        refine pe_iload_n (j := 3) (by decide +kernel) rfl ?_
        refine pe_iconstv (n := 1) (v := 1) (by decide +kernel) (by decide +kernel) ?_
        refine pi_V (j := 172) (mj := 224) (by decide +kernel) (cll_V (args := [.int 1, .int x3, .int x1]) (n := 3) (by decide +kernel) rfl rfl (md_o hc) (by decide +kernel) (Nat.le_of_ble_eq_true rfl) (Nat.le_of_ble_eq_true rfl)) ?_
        show pmE pg X pg_tyl pg_cl (d) 224 0 [.ref 147, .int x1, .int x3, .int 1] [] (md wc f A) _
        refine pe_aload_n (j := 0) (by decide +kernel) rfl ?_
        refine pe_get (j := 7) (ci := 12) (n := 0) (by decide +kernel) (by decide +kernel) (md_o hc) rfl ?_
        refine pe_iload_n (j := 1) (by decide +kernel) rfl ?_
        refine pe_bipushv (n := 102) (v := 102) (by decide +kernel) (by decide +kernel) ?_
        refine pz_add (by decide +kernel) rfl kz_102 (by omega) (by omega) (fun z12 hz12 => ?_)
        refine pe_iconstv (n := 4) (v := 4) (by decide +kernel) (by decide +kernel) ?_
        refine pe_iload_n (j := 2) (by decide +kernel) rfl ?_
        refine pz_mul (by decide +kernel) kz_4 rfl (by omega) (by omega) (fun z13 hz13 => ?_)
        refine pz_add (by decide +kernel) hz12 hz13 (by omega) (by omega) (fun z14 hz14 => ?_)
        clear hz12 hz13
        refine pe_iload_n (j := 3) (by decide +kernel) rfl ?_
        refine pz_add (by decide +kernel) hz14 kz_1 (by omega) (by omega) (fun z15 hz15 => ?_)
        clear hz14
        refine pz_iald (by decide +kernel) (md_a148 hc) (mlen_148 hI) hz15 (by omega) (by omega) (fun v16 ev16 => ?_)
        have rv16 : 0 ≤ v16.toInt ∧ v16.toInt ≤ 8 := MT_want (mt_148 hI ev16 (by omega)) (by omega)
        rw [show A 148 = A0 148 from (hF 148 (by decide) (by decide))] at ev16
        clear hz15
        refine pe_iret (by decide +kernel) rfl rfl ⟨rfl, rfl, ?_⟩
        show pmE pg X pg_tyl pg_cl (d + 1) 285 45 [.ref 147, .int x1, .int x2, .int x3, .int v11, u5] [.int v16] (md wc f A) _
        refine pe_istore (j := 5) (ls' := [.ref 147, .int x1, .int x2, .int x3, .int v11, .int v16]) (by decide +kernel) (Nat.le_of_ble_eq_true rfl) rfl ?_
        have hmw17 := mw_at (v := x1.toInt) (w := x3.toInt) (z := (A 148).getD x1.toInt.toNat 0) hI (by omega) (by omega) (by omega) (ev2.trans (el_fr (show A 148 = A0 148 from (hF 148 (by decide) (by decide))).symm)) ((ev11.trans (el_fr (show A 148 = A0 148 from (hF 148 (by decide) (by decide))).symm)).trans (congrArg (fun z : Int => (A 148).getD z.toNat 0) (show (((x1.toInt + 102) + (4 * x3.toInt)) + 0) = (x1.toInt + 102 + 4 * x3.toInt) by omega))) ((ev16.trans (el_fr (show A 148 = A0 148 from (hF 148 (by decide) (by decide))).symm)).trans (congrArg (fun z : Int => (A 148).getD z.toNat 0) (show (((x1.toInt + 102) + (4 * x3.toInt)) + 1) = (x1.toInt + 102 + 4 * x3.toInt + 1) by omega))) rfl
        refine pe_aload_n (j := 0) (by decide +kernel) rfl ?_
        refine pe_get (j := 47) (ci := 12) (n := 25) (by decide +kernel) (by decide +kernel) (md_o hc) rfl ?_
        refine pe_bipushv (n := 10) (v := 10) (by decide +kernel) (by decide +kernel) ?_
        refine pe_iload (j := 4) (by decide +kernel) rfl ?_
        refine pz_mul (by decide +kernel) kz_10 rfl (by omega) (by omega) (fun z18 hz18 => ?_)
        refine pe_iload (j := 5) (by decide +kernel) rfl ?_
        refine pz_add (by decide +kernel) hz18 rfl (by omega) (by omega) (fun z19 hz19 => ?_)
        clear hz18
        refine pe_dup2 (by decide +kernel) ⟨rfl, rfl⟩ ?_
        refine pz_iald (by decide +kernel) (md_a160 hc) (mlen_160 hI) hz19 (by omega) (by omega) (fun v20 ev20 => ?_)
        have hb21 := hpi0.2.1 ((10 * v11.toInt) + v16.toInt) (by omega) (by omega)
        rw [show fr (A 160) ((10 * v11.toInt) + v16.toInt) = v20.toInt by show ((A 160).getD (((10 * v11.toInt) + v16.toInt)).toNat 0).toInt = _; rw [ev20]] at hb21
        refine pe_aload_n (j := 0) (by decide +kernel) rfl ?_
        refine pe_iload_n (j := 1) (by decide +kernel) rfl ?_
        refine pe_iload_n (j := 3) (by decide +kernel) rfl ?_
        refine pe_iconstv (n := 2) (v := 2) (by decide +kernel) (by decide +kernel) ?_
        refine pi_V (j := 172) (mj := 224) (by decide +kernel) (cll_V (args := [.int 2, .int x3, .int x1]) (n := 3) (by decide +kernel) rfl rfl (md_o hc) (by decide +kernel) (Nat.le_of_ble_eq_true rfl) (Nat.le_of_ble_eq_true rfl)) ?_
        show pmE pg X pg_tyl pg_cl (d) 224 0 [.ref 147, .int x1, .int x3, .int 2] [] (md wc f A) _
        refine pe_aload_n (j := 0) (by decide +kernel) rfl ?_
        refine pe_get (j := 7) (ci := 12) (n := 0) (by decide +kernel) (by decide +kernel) (md_o hc) rfl ?_
        refine pe_iload_n (j := 1) (by decide +kernel) rfl ?_
        refine pe_bipushv (n := 102) (v := 102) (by decide +kernel) (by decide +kernel) ?_
        refine pz_add (by decide +kernel) rfl kz_102 (by omega) (by omega) (fun z22 hz22 => ?_)
        refine pe_iconstv (n := 4) (v := 4) (by decide +kernel) (by decide +kernel) ?_
        refine pe_iload_n (j := 2) (by decide +kernel) rfl ?_
        refine pz_mul (by decide +kernel) kz_4 rfl (by omega) (by omega) (fun z23 hz23 => ?_)
        refine pz_add (by decide +kernel) hz22 hz23 (by omega) (by omega) (fun z24 hz24 => ?_)
        clear hz22 hz23
        refine pe_iload_n (j := 3) (by decide +kernel) rfl ?_
        refine pz_add (by decide +kernel) hz24 kz_2 (by omega) (by omega) (fun z25 hz25 => ?_)
        clear hz24
        refine pz_iald (by decide +kernel) (md_a148 hc) (mlen_148 hI) hz25 (by omega) (by omega) (fun v26 ev26 => ?_)
        have rv26 : 0 ≤ v26.toInt ∧ v26.toInt ≤ 99 := MT_much (mt_148 hI ev26 (by omega)) (by omega)
        rw [show A 148 = A0 148 from (hF 148 (by decide) (by decide))] at ev26
        clear hz25
        refine pe_iret (by decide +kernel) rfl rfl ⟨rfl, rfl, ?_⟩
        show pmE pg X pg_tyl pg_cl (d + 1) 285 68 [.ref 147, .int x1, .int x2, .int x3, .int v11, .int v16] [.int v26, .int v20, .int z19, .ref 160] (md wc f A) _
        refine pz_add (by decide +kernel) rfl rfl (by omega) (by omega) (fun z27 hz27 => ?_)
        have hel28 : z27.toInt = fr (A 160) (10 * v11.toInt + v16.toInt) + v26.toInt := by show _ = ((A 160).getD (10 * v11.toInt + v16.toInt).toNat 0).toInt + _; rw [hz27, ev20]
        refine mz_st160 (by decide +kernel) hc hI hz19 (by omega) (by omega) (fun A29 eA29 hIA29 => ?_)
        refine pe_aload_n (j := 0) (by decide +kernel) rfl ?_
        refine pe_get (j := 56) (ci := 12) (n := 28) (by decide +kernel) (by decide +kernel) (md_o hc) rfl ?_
        refine pe_iload (j := 4) (by decide +kernel) rfl ?_
        refine pe_dup2 (by decide +kernel) ⟨rfl, rfl⟩ ?_
        refine pz_iald (by decide +kernel) (md_a163 hc) (mlen_163 hIA29) rfl (by omega) (by omega) (fun v30 ev30 => ?_)
        rw [show A29 163 = A 163 from upa_fr eA29 (by decide)] at ev30
        have hb31 := hpi0.1.1 v11.toInt (by omega) (by omega)
        rw [show fr (A 163) v11.toInt = v30.toInt by show ((A 163).getD (v11.toInt).toNat 0).toInt = _; rw [ev30]] at hb31
        refine pe_aload_n (j := 0) (by decide +kernel) rfl ?_
        refine pe_iload_n (j := 1) (by decide +kernel) rfl ?_
        refine pe_iload_n (j := 3) (by decide +kernel) rfl ?_
        refine pe_iconstv (n := 2) (v := 2) (by decide +kernel) (by decide +kernel) ?_
        refine pi_V (j := 172) (mj := 224) (by decide +kernel) (cll_V (args := [.int 2, .int x3, .int x1]) (n := 3) (by decide +kernel) rfl rfl (md_o hc) (by decide +kernel) (Nat.le_of_ble_eq_true rfl) (Nat.le_of_ble_eq_true rfl)) ?_
        show pmE pg X pg_tyl pg_cl (d) 224 0 [.ref 147, .int x1, .int x3, .int 2] [] (md wc f A29) _
        refine pe_aload_n (j := 0) (by decide +kernel) rfl ?_
        refine pe_get (j := 7) (ci := 12) (n := 0) (by decide +kernel) (by decide +kernel) (md_o hc) rfl ?_
        refine pe_iload_n (j := 1) (by decide +kernel) rfl ?_
        refine pe_bipushv (n := 102) (v := 102) (by decide +kernel) (by decide +kernel) ?_
        refine pz_add (by decide +kernel) rfl kz_102 (by omega) (by omega) (fun z32 hz32 => ?_)
        refine pe_iconstv (n := 4) (v := 4) (by decide +kernel) (by decide +kernel) ?_
        refine pe_iload_n (j := 2) (by decide +kernel) rfl ?_
        refine pz_mul (by decide +kernel) kz_4 rfl (by omega) (by omega) (fun z33 hz33 => ?_)
        refine pz_add (by decide +kernel) hz32 hz33 (by omega) (by omega) (fun z34 hz34 => ?_)
        clear hz32 hz33
        refine pe_iload_n (j := 3) (by decide +kernel) rfl ?_
        refine pz_add (by decide +kernel) hz34 kz_2 (by omega) (by omega) (fun z35 hz35 => ?_)
        clear hz34
        refine pz_iald (by decide +kernel) (md_a148 hc) (mlen_148 hIA29) hz35 (by omega) (by omega) (fun v36 ev36 => ?_)
        rw [show A29 148 = A0 148 from (upa_fr eA29 (by decide)).trans ((hF 148 (by decide) (by decide)))] at ev36
        rw [ev36.trans ev26.symm]
        clear ev36 v36
        clear hz35
        refine pe_iret (by decide +kernel) rfl rfl ⟨rfl, rfl, ?_⟩
        show pmE pg X pg_tyl pg_cl (d + 1) 285 85 [.ref 147, .int x1, .int x2, .int x3, .int v11, .int v16] [.int v26, .int v30, .int v11, .ref 163] (md wc f A29) _
        refine pz_sub (by decide +kernel) rfl rfl (by omega) (by omega) (fun z37 hz37 => ?_)
        have hex38 : z37.toInt = fr (A 163) v11.toInt - v26.toInt := by show _ = ((A 163).getD v11.toInt.toNat 0).toInt - _; rw [hz37, ev30]
        refine mz_st163 (by decide +kernel) hc hIA29 rfl (by omega) (by omega) (fun A39 eA39 hIA39 => ?_)
        refine pe_aload_n (j := 0) (by decide +kernel) rfl ?_
        refine pe_get (j := 56) (ci := 12) (n := 28) (by decide +kernel) (by decide +kernel) (md_o hc) rfl ?_
        refine pe_iload (j := 5) (by decide +kernel) rfl ?_
        refine pe_dup2 (by decide +kernel) ⟨rfl, rfl⟩ ?_
        refine pz_iald (by decide +kernel) (md_a163 hc) (mlen_163 hIA39) rfl (by omega) (by omega) (fun v40 ev40 => ?_)
        have hb41 : -1600 ≤ v40.toInt ∧ v40.toInt ≤ 1600 := by
          have hj := hpi0.1.1 v16.toInt (by omega) (by omega)
          unfold fr at hj
          rw [ev40, upa_at eA39, show A29 163 = A 163 from upa_fr eA29 (by decide)]
          by_cases e : (v11.toInt).toNat = (v16.toInt).toNat
          · rw [← e, gz_eq (by rw [mlen_163 hI]; omega)]; omega
          · rw [gz_ne e]; omega
        refine pe_aload_n (j := 0) (by decide +kernel) rfl ?_
        refine pe_iload_n (j := 1) (by decide +kernel) rfl ?_
        refine pe_iload_n (j := 3) (by decide +kernel) rfl ?_
        refine pe_iconstv (n := 2) (v := 2) (by decide +kernel) (by decide +kernel) ?_
        refine pi_V (j := 172) (mj := 224) (by decide +kernel) (cll_V (args := [.int 2, .int x3, .int x1]) (n := 3) (by decide +kernel) rfl rfl (md_o hc) (by decide +kernel) (Nat.le_of_ble_eq_true rfl) (Nat.le_of_ble_eq_true rfl)) ?_
        show pmE pg X pg_tyl pg_cl (d) 224 0 [.ref 147, .int x1, .int x3, .int 2] [] (md wc f A39) _
        refine pe_aload_n (j := 0) (by decide +kernel) rfl ?_
        refine pe_get (j := 7) (ci := 12) (n := 0) (by decide +kernel) (by decide +kernel) (md_o hc) rfl ?_
        refine pe_iload_n (j := 1) (by decide +kernel) rfl ?_
        refine pe_bipushv (n := 102) (v := 102) (by decide +kernel) (by decide +kernel) ?_
        refine pz_add (by decide +kernel) rfl kz_102 (by omega) (by omega) (fun z42 hz42 => ?_)
        refine pe_iconstv (n := 4) (v := 4) (by decide +kernel) (by decide +kernel) ?_
        refine pe_iload_n (j := 2) (by decide +kernel) rfl ?_
        refine pz_mul (by decide +kernel) kz_4 rfl (by omega) (by omega) (fun z43 hz43 => ?_)
        refine pz_add (by decide +kernel) hz42 hz43 (by omega) (by omega) (fun z44 hz44 => ?_)
        clear hz42 hz43
        refine pe_iload_n (j := 3) (by decide +kernel) rfl ?_
        refine pz_add (by decide +kernel) hz44 kz_2 (by omega) (by omega) (fun z45 hz45 => ?_)
        clear hz44
        refine pz_iald (by decide +kernel) (md_a148 hc) (mlen_148 hIA39) hz45 (by omega) (by omega) (fun v46 ev46 => ?_)
        rw [show A39 148 = A0 148 from (upa_fr eA39 (by decide)).trans ((upa_fr eA29 (by decide)).trans ((hF 148 (by decide) (by decide))))] at ev46
        rw [ev46.trans ev26.symm]
        clear ev46 v46
        clear hz45
        refine pe_iret (by decide +kernel) rfl rfl ⟨rfl, rfl, ?_⟩
        show pmE pg X pg_tyl pg_cl (d + 1) 285 102 [.ref 147, .int x1, .int x2, .int x3, .int v11, .int v16] [.int v26, .int v40, .int v16, .ref 163] (md wc f A39) _
        refine pz_add (by decide +kernel) rfl rfl (by omega) (by omega) (fun z47 hz47 => ?_)
        have hey48 : z47.toInt = fr ((A 163).set v11.toInt.toNat z37) v16.toInt + v26.toInt := by show _ = (((A 163).set v11.toInt.toNat z37).getD v16.toInt.toNat 0).toInt + _; rw [hz47, ev40, upa_at eA39, show A29 163 = A 163 from upa_fr eA29 (by decide)]
        refine mz_st163 (by decide +kernel) hc hIA39 rfl (by omega) (by omega) (fun A49 eA49 hIA49 => ?_)
        refine pz_iinc (j := 3) (n := 1) (by decide +kernel) rfl rfl (by decide +kernel) (by omega) (by omega) (fun z50 hz50 => ?_)
        show pmE pg X pg_tyl pg_cl (d + 1) 285 107 [.ref 147, .int x1, .int x2, .int z50, .int v11, .int v16] [] (md wc f A49) _
        refine pe_goto (off := (-101)) (t := 6) (by decide +kernel) (by decide) rfl ?_
        exact ih A49 z50 (.int v11) (.int v16) hIA49 (fun k n160 n163 => (upa_fr eA49 n163).trans ((upa_fr eA39 n163).trans ((upa_fr eA29 n160).trans ((hF k n160 n163))))) (by omega) (by rw [hz50]; exact AK_step (a := v11.toInt) (b := v16.toInt) (m := v26.toInt) hpi0 (mlen_160 hI) (mlen_163 hI) (by omega) (by omega) (by omega) (by omega) hmw17.1 hmw17.2 (by omega) (by omega) hel28 hex38 hey48 eA29 eA39 eA49) (by omega)
      · skip
        refine pe_goto (off := 78) (t := 104) (by decide +kernel) (by decide) rfl ?_
        refine pz_iinc (j := 3) (n := 1) (by decide +kernel) rfl rfl (by decide +kernel) (by omega) (by omega) (fun z51 hz51 => ?_)
        show pmE pg X pg_tyl pg_cl (d + 1) 285 107 [.ref 147, .int x1, .int x2, .int z51, u4, u5] [] (md wc f A) _
        refine pe_goto (off := (-101)) (t := 6) (by decide +kernel) (by decide) rfl ?_
        exact ih A z51 (u4) (u5) hI (fun k n160 n163 => (hF k n160 n163)) (by omega) (by rw [hz51]; exact AK_up hpi0 (by omega)) (by omega)
set_option maxRecDepth 100000 in
set_option maxHeartbeats 8000000 in
theorem NM_285 {X : pm_X} {d : Nat} {wc : pm_W} {f : Nat → Int32} {A : Nat → List Int32} {x1 x2 : Int32} (hc : wc.length = 147) (hI : MI f A) (gx1 : (610 ≤ x1.toInt ∧ x1.toInt ≤ 742 ∧ (x1.toInt - 610) % 132 = 0)) : pmE pg X pg_tyl pg_cl (d + 1) 285 0 (pm_ent (pm_max pg 285) [.ref 147, .int x1, .int x2]) [] (md wc f A) (fun q => ∃ (A' : Nat → List Int32), q = (none, md wc f A', 0, 0) ∧ MI f A' ∧ (∀ k : Nat, k ≠ 160 → k ≠ 161 → k ≠ 162 → k ≠ 163 → A' k = A k) ∧ ((AK A' x1.toInt 7 ∧ True))) := by
  show pmE pg X pg_tyl pg_cl (d + 1) 285 0 [.ref 147, .int x1, .int x2, pm_dead, pm_dead, pm_dead] [] (md wc f A) _
  refine pe_aload_n (j := 0) (by decide +kernel) rfl ?_
  refine pz_callV (j := 324) (mj := 277) (by decide +kernel) (cll_V (args := []) (n := 0) (by decide +kernel) rfl rfl (md_o hc) (by decide +kernel) (Nat.le_of_ble_eq_true rfl) (Nat.le_of_ble_eq_true rfl)) (NM_277 hc hI) (fun q1a q1b q1c q1d hqq1 => ?_)
  obtain ⟨A2, eq1, hIq1, hFq1, kq1⟩ := hqq1
  cases eq1
  refine ⟨rfl, rfl, ?_⟩
  obtain ⟨hq3, hq4, hq5, hq6, kq1⟩ := kq1
  show pmE pg X pg_tyl pg_cl (d + 1) 285 4 [.ref 147, .int x1, .int x2, pm_dead, pm_dead, pm_dead] [] (md wc f A2) _
  refine pe_iconstv (n := 0) (v := 0) (by decide +kernel) (by decide +kernel) ?_
  refine pe_istore_n (j := 3) (ls' := [.ref 147, .int x1, .int x2, .int 0, pm_dead, pm_dead]) (by decide +kernel) (Nat.le_of_ble_eq_true rfl) rfl ?_
  refine NL_285_6 hc (by omega) (fun A7 y8 u9 u10 hIy11 hFA7 gy8 hp12 => ?_) 8 A2 0 (pm_dead) (pm_dead) hIq1 (fun k _ _ => rfl) (by decide +kernel) (AK_zero kz_0 (mlen_163 hIq1) hq3 hq4 hq5 hq6) (by decide +kernel)
  exact pe_vret (by decide +kernel) rfl ⟨A7, rfl, hIy11, (fun k n160 n161 n162 n163 => ((hFA7 k n160 n163)).trans ((hFq1 k n160 n161 n162 n163))), ⟨(AK_up hp12 (by omega)), trivial⟩⟩
