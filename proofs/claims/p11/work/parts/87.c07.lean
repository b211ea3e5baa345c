set_option maxRecDepth 100000 in
set_option maxHeartbeats 8000000 in
theorem CM_169 {X : pm_X} {d : Nat} {wr : pm_W} {f : Nat → Int32} {A : Nat → List Int32} {R : Nat → Value} {x1 x2 : Int32} {v : Nat} (hX : XO X) (hI : CI f A R) (hv : VV v) (hR3 : R 3 = .ref v) : pmE pg X pg_tyl pg_cl (d + 4) 169 0 (pm_ent (pm_max pg 169) [.ref 68, .int x1, .int x2]) [] (cd f A R wr) (fun q => ∃ (A' : Nat → List Int32) (r : Int32), q = (some (.int r), cd f A' R wr, 0, 0) ∧ CI f A' R ∧ (∀ k : Nat, k ≠ 75 → k ≠ 76 → k ≠ 80 → k ≠ 81 → k ≠ 82 → A' k = A k) ∧ ((r = 0 ∧ True) ∨ (r = 1 ∧ True))) := by
  have bv := VV_b hv
  show pmE pg X pg_tyl pg_cl (d + 4) 169 0 [.ref 68, .int x1, .int x2] [] (cd f A R wr) _
  refine pe_aload_n (j := 0) (by decide +kernel) rfl ?_
  refine pe_iload_n (j := 1) (by decide +kernel) rfl ?_
  refine pz_callV (j := 97) (mj := 170) (by decide +kernel) (cll_V (args := [.int x1]) (n := 1) (by decide +kernel) rfl rfl cd_o68 (by decide +kernel) (Nat.le_of_ble_eq_true rfl) (Nat.le_of_ble_eq_true rfl)) (CM_170 hX hI hv (hR3)) (fun q1a q1b q1c q1d hqq1 => ?_)
  obtain ⟨A2, rq1, eq1, hIq1, hFq1, kq1⟩ := hqq1
  cases eq1
  refine ⟨rfl, rfl, ?_⟩
  show pmE pg X pg_tyl pg_cl (d + 4) 169 5 [.ref 68, .int x1, .int x2] [.int rq1] (cd f A2 R wr) _
  have lw4 := zi_lo rq1
  have uw4 := zi_hi rq1
  refine pz_if_ne (off := 15) (t := 20) (by decide +kernel) (by decide) rfl rfl (fun h3 => ?_) (fun h3 => ?_)
  · skip
    refine pe_iconstv (n := 0) (v := 0) (by decide +kernel) (by decide +kernel) ?_
    exact pe_iret (by decide +kernel) rfl rfl ⟨A2, 0, rfl, hIq1, (fun k n75 n76 n80 n81 n82 => (hFq1 k n75 n76)), Or.inl ⟨rfl, trivial⟩⟩
  · skip
    refine pe_aload_n (j := 0) (by decide +kernel) rfl ?_
    refine pe_iload_n (j := 2) (by decide +kernel) rfl ?_
    refine pz_callV (j := 101) (mj := 171) (by decide +kernel) (cll_V (args := [.int x2]) (n := 1) (by decide +kernel) rfl rfl cd_o68 (by decide +kernel) (Nat.le_of_ble_eq_true rfl) (Nat.le_of_ble_eq_true rfl)) (CM_171 hX hIq1 hv (hR3)) (fun q5a q5b q5c q5d hqq5 => ?_)
    obtain ⟨A6, rq5, eq5, hIq5, hFq5, kq5⟩ := hqq5
    cases eq5
    refine ⟨rfl, rfl, ?_⟩
    show pmE pg X pg_tyl pg_cl (d + 4) 169 13 [.ref 68, .int x1, .int x2] [.int rq5] (cd f A6 R wr) _
    have lw8 := zi_lo rq5
    have uw8 := zi_hi rq5
    refine pz_if_ne (off := 7) (t := 20) (by decide +kernel) (by decide) rfl rfl (fun h7 => ?_) (fun h7 => ?_)
    · skip
      refine pe_iconstv (n := 0) (v := 0) (by decide +kernel) (by decide +kernel) ?_
      exact pe_iret (by decide +kernel) rfl rfl ⟨A6, 0, rfl, hIq5, (fun k n75 n76 n80 n81 n82 => ((hFq5 k n80 n81 n82)).trans ((hFq1 k n75 n76))), Or.inl ⟨rfl, trivial⟩⟩
    · skip
      refine pe_iconstv (n := 1) (v := 1) (by decide +kernel) (by decide +kernel) ?_
      refine pe_goto (off := 4) (t := 21) (by decide +kernel) (by decide) rfl ?_
      exact pe_iret (by decide +kernel) rfl rfl ⟨A6, 1, rfl, hIq5, (fun k n75 n76 n80 n81 n82 => ((hFq5 k n80 n81 n82)).trans ((hFq1 k n75 n76))), Or.inr (⟨rfl, trivial⟩)⟩
set_option maxRecDepth 100000 in
set_option maxHeartbeats 8000000 in
theorem CM_182 {X : pm_X} {d : Nat} {wr : pm_W} {f : Nat → Int32} {A : Nat → List Int32} {R : Nat → Value} {x1 : Int32} {v : Nat} (hX : XO X) (hI : CI f A R) (hv : VV v) (hR3 : R 3 = .ref v) : pmE pg X pg_tyl pg_cl (d + 4) 182 0 (pm_ent (pm_max pg 182) [.ref 68, .int x1]) [] (cd f A R wr) (fun q => ∃ (A' : Nat → List Int32) (r : Int32), q = (some (.int r), cd f A' R wr, 0, 0) ∧ CI f A' R ∧ (∀ k : Nat, k ≠ 75 → k ≠ 76 → k ≠ 80 → k ≠ 81 → k ≠ 82 → A' k = A k) ∧ ((True ∧ True))) := by
  have bv := VV_b hv
  show pmE pg X pg_tyl pg_cl (d + 4) 182 0 [.ref 68, .int x1] [] (cd f A R wr) _
  refine pe_aload_n (j := 0) (by decide +kernel) rfl ?_
  refine pe_iload_n (j := 1) (by decide +kernel) rfl ?_
  refine pz_callV (j := 97) (mj := 170) (by decide +kernel) (cll_V (args := [.int x1]) (n := 1) (by decide +kernel) rfl rfl cd_o68 (by decide +kernel) (Nat.le_of_ble_eq_true rfl) (Nat.le_of_ble_eq_true rfl)) (CM_170 hX hI hv (hR3)) (fun q1a q1b q1c q1d hqq1 => ?_)
  obtain ⟨A2, rq1, eq1, hIq1, hFq1, kq1⟩ := hqq1
  cases eq1
  refine ⟨rfl, rfl, ?_⟩
  show pmE pg X pg_tyl pg_cl (d + 4) 182 5 [.ref 68, .int x1] [.int rq1] (cd f A2 R wr) _
  refine pe_aload_n (j := 0) (by decide +kernel) rfl ?_
  refine pe_iconstv (n := 0) (v := 0) (by decide +kernel) (by decide +kernel) ?_
  refine pz_callV (j := 101) (mj := 171) (by decide +kernel) (cll_V (args := [.int 0]) (n := 1) (by decide +kernel) rfl rfl cd_o68 (by decide +kernel) (Nat.le_of_ble_eq_true rfl) (Nat.le_of_ble_eq_true rfl)) (CM_171 hX hIq1 hv (hR3)) (fun q3a q3b q3c q3d hqq3 => ?_)
  obtain ⟨A4, rq3, eq3, hIq3, hFq3, kq3⟩ := hqq3
  cases eq3
  refine ⟨rfl, rfl, ?_⟩
  show pmE pg X pg_tyl pg_cl (d + 4) 182 10 [.ref 68, .int x1] [.int rq3, .int rq1] (cd f A4 R wr) _
  refine pw_add (by decide +kernel) (fun z5 => ?_)
  exact pe_iret (by decide +kernel) rfl rfl ⟨A4, z5, rfl, hIq3, (fun k n75 n76 n80 n81 n82 => ((hFq3 k n80 n81 n82)).trans ((hFq1 k n75 n76))), ⟨trivial, trivial⟩⟩
set_option maxRecDepth 100000 in
set_option maxHeartbeats 8000000 in
theorem CM_175 {X : pm_X} {d : Nat} {wr : pm_W} {f : Nat → Int32} {A : Nat → List Int32} {R : Nat → Value} {x1 x2 : Int32} (hX : XO X) (hI : CI f A R) (gx1 : (0 ≤ x1.toInt ∧ x1.toInt ≤ 127)) (gx2 : (0 ≤ x2.toInt ∧ x2.toInt ≤ 127)) : pmE pg X pg_tyl pg_cl (d + 1) 175 0 (pm_ent (pm_max pg 175) [.ref 68, .int x1, .int x2]) [] (cd f A R wr) (fun q => ∃ (r : Int32), q = (some (.int r), cd f A R wr, 0, 0) ∧ ((r = 0 ∧ True) ∨ (r = 1 ∧ True))) := by
  show pmE pg X pg_tyl pg_cl (d + 1) 175 0 [.ref 68, .int x1, .int x2] [] (cd f A R wr) _
  refine pe_aload_n (j := 0) (by decide +kernel) rfl ?_
  refine pe_get (j := 28) (ci := 10) (n := 4) (by decide +kernel) (by decide +kernel) cd_o68 rfl ?_
  refine pe_iload_n (j := 1) (by decide +kernel) rfl ?_
  refine pz_iald (by decide +kernel) cd_a77 (cl_77 hI) rfl (by omega) (by omega) (fun v1 ev1 => ?_)
  refine pe_aload_n (j := 0) (by decide +kernel) rfl ?_
  refine pe_get (j := 28) (ci := 10) (n := 4) (by decide +kernel) (by decide +kernel) cd_o68 rfl ?_
  refine pe_iload_n (j := 2) (by decide +kernel) rfl ?_
  refine pz_iald (by decide +kernel) cd_a77 (cl_77 hI) rfl (by omega) (by omega) (fun v2 ev2 => ?_)
  have lw4 := zi_lo v1
  have uw4 := zi_hi v1
  have lw5 := zi_lo v2
  have uw5 := zi_hi v2
  refine pz_icmp_eq (off := 24) (t := 36) (by decide +kernel) (by decide) rfl rfl rfl (fun h3 => ?_) (fun h3 => ?_)
  · skip
    refine pe_iload_n (j := 1) (by decide +kernel) rfl ?_
    refine pi_S (j := 110) (mj := 176) (by decide +kernel) (by decide +kernel) rfl ?_
    show pmE pg X pg_tyl pg_cl (d) 176 0 [.int x1] [] (cd f A R wr) _
    refine pe_iload_n (j := 0) (by decide +kernel) rfl ?_
    refine pe_iload_n (j := 0) (by decide +kernel) rfl ?_
    refine pe_iconstv (n := 1) (v := 1) (by decide +kernel) (by decide +kernel) ?_
    refine pw_ushr (by decide +kernel) (fun z6 => ?_)
    refine pe_ldc_w (j := 265) (v := 1431655765) (by decide +kernel) (by decide +kernel) ?_
    refine pw_and (by decide +kernel) (fun z7 => ?_)
    refine pw_sub (by decide +kernel) (fun z8 => ?_)
    refine pe_istore_n (j := 0) (ls' := [.int z8]) (by decide +kernel) (Nat.le_of_ble_eq_true rfl) rfl ?_
    refine pe_iload_n (j := 0) (by decide +kernel) rfl ?_
    refine pe_ldc_w (j := 266) (v := 858993459) (by decide +kernel) (by decide +kernel) ?_
    refine pw_and (by decide +kernel) (fun z9 => ?_)
    refine pe_iload_n (j := 0) (by decide +kernel) rfl ?_
    refine pe_iconstv (n := 2) (v := 2) (by decide +kernel) (by decide +kernel) ?_
    refine pw_ushr (by decide +kernel) (fun z10 => ?_)
    refine pe_ldc_w (j := 266) (v := 858993459) (by decide +kernel) (by decide +kernel) ?_
    refine pw_and (by decide +kernel) (fun z11 => ?_)
    refine pw_add (by decide +kernel) (fun z12 => ?_)
    refine pe_istore_n (j := 0) (ls' := [.int z12]) (by decide +kernel) (Nat.le_of_ble_eq_true rfl) rfl ?_
    refine pe_iload_n (j := 0) (by decide +kernel) rfl ?_
    refine pe_iload_n (j := 0) (by decide +kernel) rfl ?_
    refine pe_iconstv (n := 4) (v := 4) (by decide +kernel) (by decide +kernel) ?_
    refine pw_ushr (by decide +kernel) (fun z13 => ?_)
    refine pw_add (by decide +kernel) (fun z14 => ?_)
    refine pe_ldc_w (j := 267) (v := 252645135) (by decide +kernel) (by decide +kernel) ?_
    refine pw_and (by decide +kernel) (fun z15 => ?_)
    refine pe_istore_n (j := 0) (ls' := [.int z15]) (by decide +kernel) (Nat.le_of_ble_eq_true rfl) rfl ?_
    refine pe_iload_n (j := 0) (by decide +kernel) rfl ?_
    refine pe_iload_n (j := 0) (by decide +kernel) rfl ?_
    refine pe_bipushv (n := 8) (v := 8) (by decide +kernel) (by decide +kernel) ?_
    refine pw_ushr (by decide +kernel) (fun z16 => ?_)
    refine pw_add (by decide +kernel) (fun z17 => ?_)
    refine pe_istore_n (j := 0) (ls' := [.int z17]) (by decide +kernel) (Nat.le_of_ble_eq_true rfl) rfl ?_
    refine pe_iload_n (j := 0) (by decide +kernel) rfl ?_
    refine pe_iload_n (j := 0) (by decide +kernel) rfl ?_
    refine pe_bipushv (n := 16) (v := 16) (by decide +kernel) (by decide +kernel) ?_
    refine pz_ushr16 (by decide +kernel) (fun z18 hz18 => ?_)
    refine pw_add (by decide +kernel) (fun z19 => ?_)
    refine pe_istore_n (j := 0) (ls' := [.int z19]) (by decide +kernel) (Nat.le_of_ble_eq_true rfl) rfl ?_
    refine pe_iload_n (j := 0) (by decide +kernel) rfl ?_
    refine pe_bipushv (n := 63) (v := 63) (by decide +kernel) (by decide +kernel) ?_
    refine pw_and (by decide +kernel) (fun z20 => ?_)
    refine pe_iret (by decide +kernel) rfl rfl ⟨rfl, rfl, ?_⟩
    show pmE pg X pg_tyl pg_cl (d + 1) 175 40 [.ref 68, .int x1, .int x2] [.int z20] (cd f A R wr) _
    refine pe_iload_n (j := 2) (by decide +kernel) rfl ?_
    refine pi_S (j := 110) (mj := 176) (by decide +kernel) (by decide +kernel) rfl ?_
    show pmE pg X pg_tyl pg_cl (d) 176 0 [.int x2] [] (cd f A R wr) _
    refine pe_iload_n (j := 0) (by decide +kernel) rfl ?_
    refine pe_iload_n (j := 0) (by decide +kernel) rfl ?_
    refine pe_iconstv (n := 1) (v := 1) (by decide +kernel) (by decide +kernel) ?_
    refine pw_ushr (by decide +kernel) (fun z21 => ?_)
    refine pe_ldc_w (j := 265) (v := 1431655765) (by decide +kernel) (by decide +kernel) ?_
    refine pw_and (by decide +kernel) (fun z22 => ?_)
    refine pw_sub (by decide +kernel) (fun z23 => ?_)
    refine pe_istore_n (j := 0) (ls' := [.int z23]) (by decide +kernel) (Nat.le_of_ble_eq_true rfl) rfl ?_
    refine pe_iload_n (j := 0) (by decide +kernel) rfl ?_
    refine pe_ldc_w (j := 266) (v := 858993459) (by decide +kernel) (by decide +kernel) ?_
    refine pw_and (by decide +kernel) (fun z24 => ?_)
    refine pe_iload_n (j := 0) (by decide +kernel) rfl ?_
    refine pe_iconstv (n := 2) (v := 2) (by decide +kernel) (by decide +kernel) ?_
    refine pw_ushr (by decide +kernel) (fun z25 => ?_)
    refine pe_ldc_w (j := 266) (v := 858993459) (by decide +kernel) (by decide +kernel) ?_
    refine pw_and (by decide +kernel) (fun z26 => ?_)
    refine pw_add (by decide +kernel) (fun z27 => ?_)
    refine pe_istore_n (j := 0) (ls' := [.int z27]) (by decide +kernel) (Nat.le_of_ble_eq_true rfl) rfl ?_
    refine pe_iload_n (j := 0) (by decide +kernel) rfl ?_
    refine pe_iload_n (j := 0) (by decide +kernel) rfl ?_
    refine pe_iconstv (n := 4) (v := 4) (by decide +kernel) (by decide +kernel) ?_
    refine pw_ushr (by decide +kernel) (fun z28 => ?_)
    refine pw_add (by decide +kernel) (fun z29 => ?_)
    refine pe_ldc_w (j := 267) (v := 252645135) (by decide +kernel) (by decide +kernel) ?_
    refine pw_and (by decide +kernel) (fun z30 => ?_)
    refine pe_istore_n (j := 0) (ls' := [.int z30]) (by decide +kernel) (Nat.le_of_ble_eq_true rfl) rfl ?_
    refine pe_iload_n (j := 0) (by decide +kernel) rfl ?_
    refine pe_iload_n (j := 0) (by decide +kernel) rfl ?_
    refine pe_bipushv (n := 8) (v := 8) (by decide +kernel) (by decide +kernel) ?_
    refine pw_ushr (by decide +kernel) (fun z31 => ?_)
    refine pw_add (by decide +kernel) (fun z32 => ?_)
    refine pe_istore_n (j := 0) (ls' := [.int z32]) (by decide +kernel) (Nat.le_of_ble_eq_true rfl) rfl ?_
    refine pe_iload_n (j := 0) (by decide +kernel) rfl ?_
    refine pe_iload_n (j := 0) (by decide +kernel) rfl ?_
    refine pe_bipushv (n := 16) (v := 16) (by decide +kernel) (by decide +kernel) ?_
    refine pz_ushr16 (by decide +kernel) (fun z33 hz33 => ?_)
    refine pw_add (by decide +kernel) (fun z34 => ?_)
    refine pe_istore_n (j := 0) (ls' := [.int z34]) (by decide +kernel) (Nat.le_of_ble_eq_true rfl) rfl ?_
    refine pe_iload_n (j := 0) (by decide +kernel) rfl ?_
    refine pe_bipushv (n := 63) (v := 63) (by decide +kernel) (by decide +kernel) ?_
    refine pw_and (by decide +kernel) (fun z35 => ?_)
    refine pe_iret (by decide +kernel) rfl rfl ⟨rfl, rfl, ?_⟩
    show pmE pg X pg_tyl pg_cl (d + 1) 175 44 [.ref 68, .int x1, .int x2] [.int z35, .int z20] (cd f A R wr) _
    have lw37 := zi_lo z20
    have uw37 := zi_hi z20
    have lw38 := zi_lo z35
    have uw38 := zi_hi z35
    refine pz_icmp_ge (off := 7) (t := 51) (by decide +kernel) (by decide) rfl rfl rfl (fun h36 => ?_) (fun h36 => ?_)
    · skip
      refine pe_iconstv (n := 0) (v := 0) (by decide +kernel) (by decide +kernel) ?_
      exact pe_iret (by decide +kernel) rfl rfl ⟨0, rfl, Or.inl ⟨rfl, trivial⟩⟩
    · skip
      refine pe_iconstv (n := 1) (v := 1) (by decide +kernel) (by decide +kernel) ?_
      refine pe_goto (off := 4) (t := 52) (by decide +kernel) (by decide) rfl ?_
      exact pe_iret (by decide +kernel) rfl rfl ⟨1, rfl, Or.inr (⟨rfl, trivial⟩)⟩
  · skip
    refine pe_aload_n (j := 0) (by decide +kernel) rfl ?_
    refine pe_get (j := 28) (ci := 10) (n := 4) (by decide +kernel) (by decide +kernel) cd_o68 rfl ?_
    refine pe_iload_n (j := 1) (by decide +kernel) rfl ?_
    refine pz_iald (by decide +kernel) cd_a77 (cl_77 hI) rfl (by omega) (by omega) (fun v39 ev39 => ?_)
    rw [ev39.trans ev1.symm]
    clear ev39 v39
    refine pe_aload_n (j := 0) (by decide +kernel) rfl ?_
    refine pe_get (j := 28) (ci := 10) (n := 4) (by decide +kernel) (by decide +kernel) cd_o68 rfl ?_
    refine pe_iload_n (j := 2) (by decide +kernel) rfl ?_
    refine pz_iald (by decide +kernel) cd_a77 (cl_77 hI) rfl (by omega) (by omega) (fun v40 ev40 => ?_)
    rw [ev40.trans ev2.symm]
    clear ev40 v40
    refine pz_icmp_le (off := 7) (t := 34) (by decide +kernel) (by decide) rfl rfl rfl (fun h41 => ?_) (fun h41 => ?_)
    · skip
      refine pe_iconstv (n := 0) (v := 0) (by decide +kernel) (by decide +kernel) ?_
      exact pe_iret (by decide +kernel) rfl rfl ⟨0, rfl, Or.inl ⟨rfl, trivial⟩⟩
    · skip
      refine pe_iconstv (n := 1) (v := 1) (by decide +kernel) (by decide +kernel) ?_
      refine pe_goto (off := 4) (t := 35) (by decide +kernel) (by decide) rfl ?_
      exact pe_iret (by decide +kernel) rfl rfl ⟨1, rfl, Or.inr (⟨rfl, trivial⟩)⟩
set_option maxRecDepth 100000 in
set_option maxHeartbeats 8000000 in
theorem CL_174_4 {X : pm_X} {d : Nat} {wr : pm_W} {Q : pm_R → Prop} {f : Nat → Int32} {A0 : Nat → List Int32} {R : Nat → Value} {x1 : Int32} {v : Nat} (hX : XO X) (hv : VV v) (hR3 : R 3 = .ref v) (k_38_0 : ∀ (A' : Nat → List Int32) (y2 : Int32) (y3 : Int32), CI f A' R → (∀ k : Nat, k ≠ 75 → k ≠ 76 → k ≠ 80 → k ≠ 81 → k ≠ 82 → A' k = A0 k) → (0 ≤ y2.toInt ∧ y2.toInt ≤ 127) → (1 ≤ y3.toInt ∧ y3.toInt ≤ 128) → pmE pg X pg_tyl pg_cl (d + 5) 174 38 [.ref 68, .int x1, .int y2, .int y3] [] (cd f A' R wr) Q) : ∀ (m : Nat) (A : Nat → List Int32) (x2 : Int32) (x3 : Int32), CI f A R → (∀ k : Nat, k ≠ 75 → k ≠ 76 → k ≠ 80 → k ≠ 81 → k ≠ 82 → A k = A0 k) → (0 ≤ x2.toInt ∧ x2.toInt ≤ 127) → (1 ≤ x3.toInt ∧ x3.toInt ≤ 128) → 128 - x3.toInt < (m : Int) → pmE pg X pg_tyl pg_cl (d + 5) 174 4 [.ref 68, .int x1, .int x2, .int x3] [] (cd f A R wr) Q := by
  have bv := VV_b hv
  intro m
  induction m with
  | zero =>
    intro A x2 x3 hI hF gx2 gx3 hm
    exfalso
    have l0 := zi_lo x3
    have u0 := zi_hi x3
    omega
  | succ m ih =>
    intro A x2 x3 hI hF gx2 gx3 hm
    refine pe_iload_n (j := 3) (by decide +kernel) rfl ?_
    refine pe_aload_n (j := 0) (by decide +kernel) rfl ?_
    refine pe_get (j := 63) (ci := 10) (n := 7) (by decide +kernel) (by decide +kernel) cd_o68 rfl ?_
    have hr_f_1095 := cf_1095 hI
    refine pz_icmp_ge (off := 29) (t := 38) (by decide +kernel) (by decide) rfl rfl rfl (fun h1 => ?_) (fun h1 => ?_)
    · skip
      exact k_38_0 A x2 x3 hI (fun k n75 n76 n80 n81 n82 => (hF k n75 n76 n80 n81 n82)) (by omega) (by omega)
    · skip
      refine pe_aload_n (j := 0) (by decide +kernel) rfl ?_
      refine pe_iload_n (j := 3) (by decide +kernel) rfl ?_
      refine pe_iload_n (j := 2) (by decide +kernel) rfl ?_
      refine pz_callV (j := 104) (mj := 175) (by decide +kernel) (cll_V (args := [.int x2, .int x3]) (n := 2) (by decide +kernel) rfl rfl cd_o68 (by decide +kernel) (Nat.le_of_ble_eq_true rfl) (Nat.le_of_ble_eq_true rfl)) (CM_175 hX hI (by omega) (by omega)) (fun q2a q2b q2c q2d hqq2 => ?_)
      obtain ⟨rq2, eq2, kq2⟩ := hqq2
      cases eq2
      refine ⟨rfl, rfl, ?_⟩
      rcases kq2 with kq2 | kq2
      · skip
        obtain ⟨erq2, kq2⟩ := kq2
        subst erq2
        show pmE pg X pg_tyl pg_cl (d + 5) 174 18 [.ref 68, .int x1, .int x2, .int x3] [.int 0] (cd f A R wr) _
        refine pz_if_eq (off := 14) (t := 32) (by decide +kernel) (by decide) rfl kz_0 (fun h3 => ?_) (fun h3 => by omega)
        refine pz_iinc (j := 3) (n := 1) (by decide +kernel) rfl rfl (by decide +kernel) (by omega) (by omega) (fun z4 hz4 => ?_)
        show pmE pg X pg_tyl pg_cl (d + 5) 174 35 [.ref 68, .int x1, .int x2, .int z4] [] (cd f A R wr) _
        refine pe_goto (off := (-31)) (t := 4) (by decide +kernel) (by decide) rfl ?_
        exact ih A x2 z4 hI (fun k n75 n76 n80 n81 n82 => (hF k n75 n76 n80 n81 n82)) (by omega) (by omega) (by omega)
      · skip
        obtain ⟨erq2, kq2⟩ := kq2
        subst erq2
        show pmE pg X pg_tyl pg_cl (d + 5) 174 18 [.ref 68, .int x1, .int x2, .int x3] [.int 1] (cd f A R wr) _
        refine pz_if_eq (off := 14) (t := 32) (by decide +kernel) (by decide) rfl kz_1 (fun h5 => by omega) (fun h5 => ?_)
        refine pe_aload_n (j := 0) (by decide +kernel) rfl ?_
        refine pe_iload_n (j := 3) (by decide +kernel) rfl ?_
        refine pe_iload_n (j := 1) (by decide +kernel) rfl ?_
        refine pz_callV (j := 107) (mj := 169) (by decide +kernel) (cll_V (args := [.int x1, .int x3]) (n := 2) (by decide +kernel) rfl rfl cd_o68 (by decide +kernel) (Nat.le_of_ble_eq_true rfl) (Nat.le_of_ble_eq_true rfl)) (CM_169 hX hI hv (hR3)) (fun q6a q6b q6c q6d hqq6 => ?_)
        obtain ⟨A7, rq6, eq6, hIq6, hFq6, kq6⟩ := hqq6
        cases eq6
        refine ⟨rfl, rfl, ?_⟩
        rcases kq6 with kq6 | kq6
        · skip
          obtain ⟨erq6, kq6⟩ := kq6
          subst erq6
          show pmE pg X pg_tyl pg_cl (d + 5) 174 27 [.ref 68, .int x1, .int x2, .int x3] [.int 0] (cd f A7 R wr) _
          refine pz_if_eq (off := 5) (t := 32) (by decide +kernel) (by decide) rfl kz_0 (fun h8 => ?_) (fun h8 => by omega)
          refine pz_iinc (j := 3) (n := 1) (by decide +kernel) rfl rfl (by decide +kernel) (by omega) (by omega) (fun z9 hz9 => ?_)
          show pmE pg X pg_tyl pg_cl (d + 5) 174 35 [.ref 68, .int x1, .int x2, .int z9] [] (cd f A7 R wr) _
          refine pe_goto (off := (-31)) (t := 4) (by decide +kernel) (by decide) rfl ?_
          exact ih A7 x2 z9 hIq6 (fun k n75 n76 n80 n81 n82 => ((hFq6 k n75 n76 n80 n81 n82)).trans ((hF k n75 n76 n80 n81 n82))) (by omega) (by omega) (by omega)
        · skip
          obtain ⟨erq6, kq6⟩ := kq6
          subst erq6
          show pmE pg X pg_tyl pg_cl (d + 5) 174 27 [.ref 68, .int x1, .int x2, .int x3] [.int 1] (cd f A7 R wr) _
          refine pz_if_eq (off := 5) (t := 32) (by decide +kernel) (by decide) rfl kz_1 (fun h10 => by omega) (fun h10 => ?_)
          refine pe_iload_n (j := 3) (by decide +kernel) rfl ?_
          refine pe_istore_n (j := 2) (ls' := [.ref 68, .int x1, .int x3, .int x3]) (by decide +kernel) (Nat.le_of_ble_eq_true rfl) rfl ?_
          refine pz_iinc (j := 3) (n := 1) (by decide +kernel) rfl rfl (by decide +kernel) (by omega) (by omega) (fun z11 hz11 => ?_)
          show pmE pg X pg_tyl pg_cl (d + 5) 174 35 [.ref 68, .int x1, .int x3, .int z11] [] (cd f A7 R wr) _
          refine pe_goto (off := (-31)) (t := 4) (by decide +kernel) (by decide) rfl ?_
          exact ih A7 x3 z11 hIq6 (fun k n75 n76 n80 n81 n82 => ((hFq6 k n75 n76 n80 n81 n82)).trans ((hF k n75 n76 n80 n81 n82))) (by omega) (by omega) (by omega)
set_option maxRecDepth 100000 in
set_option maxHeartbeats 8000000 in
theorem CM_174 {X : pm_X} {d : Nat} {wr : pm_W} {f : Nat → Int32} {A : Nat → List Int32} {R : Nat → Value} {x1 : Int32} {v : Nat} (hX : XO X) (hI : CI f A R) (hv : VV v) (hR3 : R 3 = .ref v) : pmE pg X pg_tyl pg_cl (d + 5) 174 0 (pm_ent (pm_max pg 174) [.ref 68, .int x1]) [] (cd f A R wr) (fun q => ∃ (A' : Nat → List Int32) (r : Int32), q = (some (.int r), cd f A' R wr, 0, 0) ∧ CI f A' R ∧ (∀ k : Nat, k ≠ 75 → k ≠ 76 → k ≠ 80 → k ≠ 81 → k ≠ 82 → A' k = A k) ∧ (((0 ≤ r.toInt ∧ r.toInt ≤ 127) ∧ True))) := by
  have bv := VV_b hv
  show pmE pg X pg_tyl pg_cl (d + 5) 174 0 [.ref 68, .int x1, pm_dead, pm_dead] [] (cd f A R wr) _
  refine pe_iconstv (n := 0) (v := 0) (by decide +kernel) (by decide +kernel) ?_
  refine pe_istore_n (j := 2) (ls' := [.ref 68, .int x1, .int 0, pm_dead]) (by decide +kernel) (Nat.le_of_ble_eq_true rfl) rfl ?_
  refine pe_iconstv (n := 1) (v := 1) (by decide +kernel) (by decide +kernel) ?_
  refine pe_istore_n (j := 3) (ls' := [.ref 68, .int x1, .int 0, .int 1]) (by decide +kernel) (Nat.le_of_ble_eq_true rfl) rfl ?_
  refine CL_174_4 hX hv (hR3) (fun A1 y2 y3 hIy4 hFA1 gy2 gy3 => ?_) 128 A 0 1 hI (fun k _ _ _ _ _ => rfl) (by decide +kernel) (by decide +kernel) (by decide +kernel)
  refine pe_iload_n (j := 2) (by decide +kernel) rfl ?_
  exact pe_iret (by decide +kernel) rfl rfl ⟨A1, y2, rfl, hIy4, (fun k n75 n76 n80 n81 n82 => (hFA1 k n75 n76 n80 n81 n82)), ⟨(by omega), trivial⟩⟩
set_option maxRecDepth 100000 in
set_option maxHeartbeats 8000000 in
theorem CM_178 {X : pm_X} {d : Nat} {wr : pm_W} {f : Nat → Int32} {A : Nat → List Int32} {R : Nat → Value} {x1 : Int32} {v : Nat} (hX : XO X) (hI : CI f A R) (hv : VV v) (hR3 : R 3 = .ref v) : pmE pg X pg_tyl pg_cl (d + 6) 178 0 (pm_ent (pm_max pg 178) [.ref 68, .int x1]) [] (cd f A R wr) (fun q => ∃ (A' : Nat → List Int32) (r : Int32), q = (some (.int r), cd f A' R wr, 0, 0) ∧ CI f A' R ∧ (∀ k : Nat, k ≠ 75 → k ≠ 76 → k ≠ 80 → k ≠ 81 → k ≠ 82 → A' k = A k) ∧ ((True ∧ True))) := by
  have bv := VV_b hv
  show pmE pg X pg_tyl pg_cl (d + 6) 178 0 [.ref 68, .int x1] [] (cd f A R wr) _
  refine pe_aload_n (j := 0) (by decide +kernel) rfl ?_
  refine pe_get (j := 28) (ci := 10) (n := 4) (by decide +kernel) (by decide +kernel) cd_o68 rfl ?_
  refine pe_aload_n (j := 0) (by decide +kernel) rfl ?_
  refine pe_iload_n (j := 1) (by decide +kernel) rfl ?_
  refine pz_callV (j := 115) (mj := 174) (by decide +kernel) (cll_V (args := [.int x1]) (n := 1) (by decide +kernel) rfl rfl cd_o68 (by decide +kernel) (Nat.le_of_ble_eq_true rfl) (Nat.le_of_ble_eq_true rfl)) (CM_174 hX hI hv (hR3)) (fun q1a q1b q1c q1d hqq1 => ?_)
  obtain ⟨A2, rq1, eq1, hIq1, hFq1, kq1⟩ := hqq1
  cases eq1
  refine ⟨rfl, rfl, ?_⟩
  show pmE pg X pg_tyl pg_cl (d + 6) 178 9 [.ref 68, .int x1] [.int rq1, .ref 77] (cd f A2 R wr) _
  refine pz_iald (by decide +kernel) cd_a77 (cl_77 hIq1) rfl (by omega) (by omega) (fun v3 ev3 => ?_)
  rw [show A2 77 = A 77 from (hFq1 77 (by decide) (by decide) (by decide) (by decide) (by decide))] at ev3
  exact pe_iret (by decide +kernel) rfl rfl ⟨A2, v3, rfl, hIq1, (fun k n75 n76 n80 n81 n82 => (hFq1 k n75 n76 n80 n81 n82)), ⟨trivial, trivial⟩⟩
set_option maxRecDepth 100000 in
set_option maxHeartbeats 8000000 in
theorem CL_188_16 {X : pm_X} {d : Nat} {wr : pm_W} {Q : pm_R → Prop} {f : Nat → Int32} {A0 : Nat → List Int32} {R : Nat → Value} {v : Nat} (hX : XO X) (hv : VV v) (hR3 : R 3 = .ref v) (k_63_0 : ∀ (A' : Nat → List Int32) (y1 : Int32), CI f A' R → (∀ k : Nat, k ≠ 75 → k ≠ 76 → k ≠ 78 → k ≠ 80 → k ≠ 81 → k ≠ 82 → A' k = A0 k) → (0 ≤ y1.toInt ∧ y1.toInt ≤ 128) → pmE pg X pg_tyl pg_cl (d + 6) 188 63 [.ref 68, .int y1] [] (cd f A' R wr) Q) : ∀ (m : Nat) (A : Nat → List Int32) (x1 : Int32), CI f A R → (∀ k : Nat, k ≠ 75 → k ≠ 76 → k ≠ 78 → k ≠ 80 → k ≠ 81 → k ≠ 82 → A k = A0 k) → (0 ≤ x1.toInt ∧ x1.toInt ≤ 128) → 128 - x1.toInt < (m : Int) → pmE pg X pg_tyl pg_cl (d + 6) 188 16 [.ref 68, .int x1] [] (cd f A R wr) Q := by
  have bv := VV_b hv
  intro m
  induction m with
  | zero =>
    intro A x1 hI hF gx1 hm
    exfalso
    have l0 := zi_lo x1
    have u0 := zi_hi x1
    omega
  | succ m ih =>
    intro A x1 hI hF gx1 hm
    refine pe_iload_n (j := 1) (by decide +kernel) rfl ?_
    refine pe_aload_n (j := 0) (by decide +kernel) rfl ?_
    refine pe_get (j := 63) (ci := 10) (n := 7) (by decide +kernel) (by decide +kernel) cd_o68 rfl ?_
    have hr_f_1095 := cf_1095 hI
    refine pz_icmp_ge (off := 42) (t := 63) (by decide +kernel) (by decide) rfl rfl rfl (fun h1 => ?_) (fun h1 => ?_)
    · skip
      exact k_63_0 A x1 hI (fun k n75 n76 n78 n80 n81 n82 => (hF k n75 n76 n78 n80 n81 n82)) (by omega)
    · skip
      refine pe_aload_n (j := 0) (by decide +kernel) rfl ?_
      refine pe_get (j := 31) (ci := 10) (n := 5) (by decide +kernel) (by decide +kernel) cd_o68 rfl ?_
      refine pe_iload_n (j := 1) (by decide +kernel) rfl ?_
      refine pe_aload_n (j := 0) (by decide +kernel) rfl ?_
      refine pe_get (j := 28) (ci := 10) (n := 4) (by decide +kernel) (by decide +kernel) cd_o68 rfl ?_
      refine pe_iload_n (j := 1) (by decide +kernel) rfl ?_
      refine pz_iald (by decide +kernel) cd_a77 (cl_77 hI) rfl (by omega) (by omega) (fun v2 ev2 => ?_)
      rw [show A 77 = A0 77 from (hF 77 (by decide) (by decide) (by decide) (by decide) (by decide) (by decide))] at ev2
      refine pe_aload_n (j := 0) (by decide +kernel) rfl ?_
      refine pe_get (j := 118) (ci := 10) (n := 8) (by decide +kernel) (by decide +kernel) cd_o68 rfl ?_
      have lw4 := zi_lo v2
      have uw4 := zi_hi v2
      have lw5 := zi_lo (f 1096)
      have uw5 := zi_hi (f 1096)
      refine pz_icmp_le (off := 16) (t := 55) (by decide +kernel) (by decide) rfl rfl rfl (fun h3 => ?_) (fun h3 => ?_)
      · skip
        refine pe_iconstv (n := 0) (v := 0) (by decide +kernel) (by decide +kernel) ?_
        refine cz_st78 (by decide +kernel) hI rfl (by omega) (by omega) (fun A6 eA6 hIA6 => ?_)
        refine pz_iinc (j := 1) (n := 1) (by decide +kernel) rfl rfl (by decide +kernel) (by omega) (by omega) (fun z7 hz7 => ?_)
        show pmE pg X pg_tyl pg_cl (d + 6) 188 60 [.ref 68, .int z7] [] (cd f A6 R wr) _
        refine pe_goto (off := (-44)) (t := 16) (by decide +kernel) (by decide) rfl ?_
        exact ih A6 z7 hIA6 (fun k n75 n76 n78 n80 n81 n82 => (upa_fr eA6 n78).trans ((hF k n75 n76 n78 n80 n81 n82))) (by omega) (by omega)
      · skip
        refine pe_aload_n (j := 0) (by decide +kernel) rfl ?_
        refine pe_iload_n (j := 1) (by decide +kernel) rfl ?_
        refine pz_callV (j := 121) (mj := 182) (by decide +kernel) (cll_V (args := [.int x1]) (n := 1) (by decide +kernel) rfl rfl cd_o68 (by decide +kernel) (Nat.le_of_ble_eq_true rfl) (Nat.le_of_ble_eq_true rfl)) (CM_182 hX hI hv (hR3)) (fun q8a q8b q8c q8d hqq8 => ?_)
        obtain ⟨A9, rq8, eq8, hIq8, hFq8, kq8⟩ := hqq8
        cases eq8
        refine ⟨rfl, rfl, ?_⟩
        show pmE pg X pg_tyl pg_cl (d + 6) 188 47 [.ref 68, .int x1] [.int rq8, .int x1, .ref 78] (cd f A9 R wr) _
        refine pe_iconstv (n := 1) (v := 1) (by decide +kernel) (by decide +kernel) ?_
        have lw11 := zi_lo rq8
        have uw11 := zi_hi rq8
        refine pz_icmp_ne (off := 7) (t := 55) (by decide +kernel) (by decide) rfl rfl kz_1 (fun h10 => ?_) (fun h10 => ?_)
        · skip
          refine pe_iconstv (n := 0) (v := 0) (by decide +kernel) (by decide +kernel) ?_
          refine cz_st78 (by decide +kernel) hIq8 rfl (by omega) (by omega) (fun A12 eA12 hIA12 => ?_)
          refine pz_iinc (j := 1) (n := 1) (by decide +kernel) rfl rfl (by decide +kernel) (by omega) (by omega) (fun z13 hz13 => ?_)
          show pmE pg X pg_tyl pg_cl (d + 6) 188 60 [.ref 68, .int z13] [] (cd f A12 R wr) _
          refine pe_goto (off := (-44)) (t := 16) (by decide +kernel) (by decide) rfl ?_
          exact ih A12 z13 hIA12 (fun k n75 n76 n78 n80 n81 n82 => (upa_fr eA12 n78).trans (((hFq8 k n75 n76 n80 n81 n82)).trans ((hF k n75 n76 n78 n80 n81 n82)))) (by omega) (by omega)
        · skip
          refine pe_iconstv (n := 1) (v := 1) (by decide +kernel) (by decide +kernel) ?_
          refine pe_goto (off := 4) (t := 56) (by decide +kernel) (by decide) rfl ?_
          refine cz_st78 (by decide +kernel) hIq8 rfl (by omega) (by omega) (fun A14 eA14 hIA14 => ?_)
          refine pz_iinc (j := 1) (n := 1) (by decide +kernel) rfl rfl (by decide +kernel) (by omega) (by omega) (fun z15 hz15 => ?_)
          show pmE pg X pg_tyl pg_cl (d + 6) 188 60 [.ref 68, .int z15] [] (cd f A14 R wr) _
          refine pe_goto (off := (-44)) (t := 16) (by decide +kernel) (by decide) rfl ?_
          exact ih A14 z15 hIA14 (fun k n75 n76 n78 n80 n81 n82 => (upa_fr eA14 n78).trans (((hFq8 k n75 n76 n80 n81 n82)).trans ((hF k n75 n76 n78 n80 n81 n82)))) (by omega) (by omega)
set_option maxRecDepth 100000 in
set_option maxHeartbeats 8000000 in
theorem CM_188 {X : pm_X} {d : Nat} {wr : pm_W} {f : Nat → Int32} {A : Nat → List Int32} {R : Nat → Value} {v : Nat} (hX : XO X) (hI : CI f A R) (hv : VV v) (hR3 : R 3 = .ref v) : pmE pg X pg_tyl pg_cl (d + 6) 188 0 (pm_ent (pm_max pg 188) [.ref 68]) [] (cd f A R wr) (fun q => ∃ (f' : Nat → Int32) (A' : Nat → List Int32), q = (none, cd f' A' R wr, 0, 0) ∧ CI f' A' R ∧ (∀ k : Nat, k ≠ 1096 → f' k = f k) ∧ (∀ k : Nat, k ≠ 75 → k ≠ 76 → k ≠ 78 → k ≠ 80 → k ≠ 81 → k ≠ 82 → A' k = A k) ∧ ((True))) := by
  have bv := VV_b hv
  show pmE pg X pg_tyl pg_cl (d + 6) 188 0 [.ref 68, pm_dead] [] (cd f A R wr) _
  refine pe_aload_n (j := 0) (by decide +kernel) rfl ?_
  refine pe_aload_n (j := 0) (by decide +kernel) rfl ?_
  refine pe_get (j := 28) (ci := 10) (n := 4) (by decide +kernel) (by decide +kernel) cd_o68 rfl ?_
  refine pe_aload_n (j := 0) (by decide +kernel) rfl ?_
  refine pe_iconstv (n := 0) (v := 0) (by decide +kernel) (by decide +kernel) ?_
  refine pz_callV (j := 115) (mj := 174) (by decide +kernel) (cll_V (args := [.int 0]) (n := 1) (by decide +kernel) rfl rfl cd_o68 (by decide +kernel) (Nat.le_of_ble_eq_true rfl) (Nat.le_of_ble_eq_true rfl)) (CM_174 hX hI hv (hR3)) (fun q1a q1b q1c q1d hqq1 => ?_)
  obtain ⟨A2, rq1, eq1, hIq1, hFq1, kq1⟩ := hqq1
  cases eq1
  refine ⟨rfl, rfl, ?_⟩
  show pmE pg X pg_tyl pg_cl (d + 6) 188 10 [.ref 68, pm_dead] [.int rq1, .ref 77, .ref 68] (cd f A2 R wr) _
  refine pz_iald (by decide +kernel) cd_a77 (cl_77 hIq1) rfl (by omega) (by omega) (fun v3 ev3 => ?_)
  rw [show A2 77 = A 77 from (hFq1 77 (by decide) (by decide) (by decide) (by decide) (by decide))] at ev3
  refine cz_put1096 (jj := 118) (by decide +kernel) (by decide +kernel) hIq1 (fun f4 ef4 hIf4 => ?_)
  refine pe_iconstv (n := 0) (v := 0) (by decide +kernel) (by decide +kernel) ?_
  refine pe_istore_n (j := 1) (ls' := [.ref 68, .int 0]) (by decide +kernel) (Nat.le_of_ble_eq_true rfl) rfl ?_
  refine CL_188_16 hX hv (hR3) (fun A5 y6 hIy7 hFA5 gy6 => ?_) 129 A2 0 hIf4 (fun k _ _ _ _ _ _ => rfl) (by decide +kernel) (by decide +kernel)
  exact pe_vret (by decide +kernel) rfl ⟨f4, A5, rfl, hIy7, (fun k n1096 => upf_fr ef4 n1096), (fun k n75 n76 n78 n80 n81 n82 => ((hFA5 k n75 n76 n78 n80 n81 n82)).trans ((hFq1 k n75 n76 n80 n81 n82))), trivial⟩
set_option maxRecDepth 100000 in
set_option maxHeartbeats 8000000 in
theorem CL_189_22 {X : pm_X} {d : Nat} {wr : pm_W} {Q : pm_R → Prop} {f : Nat → Int32} {A0 : Nat → List Int32} {R : Nat → Value} {x1 x2 : Int32} {v : Nat} (hX : XO X) (hv : VV v) (hR3 : R 3 = .ref v) (gx1 : (0 ≤ x1.toInt ∧ x1.toInt ≤ 8)) (gx2 : (0 ≤ x2.toInt ∧ x2.toInt ≤ 8)) (k_76_0 : ∀ (A' : Nat → List Int32) (y3 : Int32) (y4 : Int32), CI f A' R → (∀ k : Nat, k ≠ 75 → k ≠ 76 → k ≠ 80 → k ≠ 81 → k ≠ 82 → A' k = A0 k) → (0 ≤ y4.toInt ∧ y4.toInt ≤ 128) → pmE pg X pg_tyl pg_cl (d + 5) 189 76 [.ref 68, .int x1, .int x2, .int y3, .int y4] [] (cd f A' R wr) Q) : ∀ (m : Nat) (A : Nat → List Int32) (x3 : Int32) (x4 : Int32), CI f A R → (∀ k : Nat, k ≠ 75 → k ≠ 76 → k ≠ 80 → k ≠ 81 → k ≠ 82 → A k = A0 k) → (0 ≤ x4.toInt ∧ x4.toInt ≤ 128) → 128 - x4.toInt < (m : Int) → pmE pg X pg_tyl pg_cl (d + 5) 189 22 [.ref 68, .int x1, .int x2, .int x3, .int x4] [] (cd f A R wr) Q := by
  have bv := VV_b hv
  intro m
  induction m with
  | zero =>
    intro A x3 x4 hI hF gx4 hm
    exfalso
    have l0 := zi_lo x4
    have u0 := zi_hi x4
    omega
  | succ m ih =>
    intro A x3 x4 hI hF gx4 hm
    refine pe_iload (j := 4) (by decide +kernel) rfl ?_
    refine pe_aload_n (j := 0) (by decide +kernel) rfl ?_
    refine pe_get (j := 63) (ci := 10) (n := 7) (by decide +kernel) (by decide +kernel) cd_o68 rfl ?_
    have hr_f_1095 := cf_1095 hI
    refine pz_icmp_ge (off := 48) (t := 76) (by decide +kernel) (by decide) rfl rfl rfl (fun h1 => ?_) (fun h1 => ?_)
    · skip
      exact k_76_0 A x3 x4 hI (fun k n75 n76 n80 n81 n82 => (hF k n75 n76 n80 n81 n82)) (by omega)
    · skip
      refine pe_aload_n (j := 0) (by decide +kernel) rfl ?_
      refine pe_get (j := 31) (ci := 10) (n := 5) (by decide +kernel) (by decide +kernel) cd_o68 rfl ?_
      refine pe_iload (j := 4) (by decide +kernel) rfl ?_
      refine pz_zald (by decide +kernel) cd_a78 (cl_78 hI) rfl (by omega) (by omega) (fun v2 ev2 => ?_)
      have rv2 : 0 ≤ v2.toInt ∧ v2.toInt ≤ 1 := ct_78 hI ev2
      rw [show A 78 = A0 78 from (hF 78 (by decide) (by decide) (by decide) (by decide) (by decide))] at ev2
      refine pz_if_eq (off := 32) (t := 70) (by decide +kernel) (by decide) rfl rfl (fun h3 => ?_) (fun h3 => ?_)
      · skip
        refine pz_iinc (j := 4) (n := 1) (by decide +kernel) rfl rfl (by decide +kernel) (by omega) (by omega) (fun z4 hz4 => ?_)
        show pmE pg X pg_tyl pg_cl (d + 5) 189 73 [.ref 68, .int x1, .int x2, .int x3, .int z4] [] (cd f A R wr) _
        refine pe_goto (off := (-51)) (t := 22) (by decide +kernel) (by decide) rfl ?_
        exact ih A x3 z4 hI (fun k n75 n76 n80 n81 n82 => (hF k n75 n76 n80 n81 n82)) (by omega) (by omega)
      · skip
        refine pe_aload_n (j := 0) (by decide +kernel) rfl ?_
        refine pe_get (j := 28) (ci := 10) (n := 4) (by decide +kernel) (by decide +kernel) cd_o68 rfl ?_
        refine pe_iload (j := 4) (by decide +kernel) rfl ?_
        refine pz_iald (by decide +kernel) cd_a77 (cl_77 hI) rfl (by omega) (by omega) (fun v5 ev5 => ?_)
        rw [show A 77 = A0 77 from (hF 77 (by decide) (by decide) (by decide) (by decide) (by decide))] at ev5
        refine pe_iload_n (j := 3) (by decide +kernel) rfl ?_
        have lw7 := zi_lo v5
        have uw7 := zi_hi v5
        have lw8 := zi_lo x3
        have uw8 := zi_hi x3
        refine pz_icmp_le (off := 21) (t := 70) (by decide +kernel) (by decide) rfl rfl rfl (fun h6 => ?_) (fun h6 => ?_)
        · skip
          refine pz_iinc (j := 4) (n := 1) (by decide +kernel) rfl rfl (by decide +kernel) (by omega) (by omega) (fun z9 hz9 => ?_)
          show pmE pg X pg_tyl pg_cl (d + 5) 189 73 [.ref 68, .int x1, .int x2, .int x3, .int z9] [] (cd f A R wr) _
          refine pe_goto (off := (-51)) (t := 22) (by decide +kernel) (by decide) rfl ?_
          exact ih A x3 z9 hI (fun k n75 n76 n80 n81 n82 => (hF k n75 n76 n80 n81 n82)) (by omega) (by omega)
        · skip
          refine pe_aload_n (j := 0) (by decide +kernel) rfl ?_
          refine pe_iload (j := 4) (by decide +kernel) rfl ?_
          refine pe_iconstv (n := 0) (v := 0) (by decide +kernel) (by decide +kernel) ?_
          refine pz_callV (j := 107) (mj := 169) (by decide +kernel) (cll_V (args := [.int 0, .int x4]) (n := 2) (by decide +kernel) rfl rfl cd_o68 (by decide +kernel) (Nat.le_of_ble_eq_true rfl) (Nat.le_of_ble_eq_true rfl)) (CM_169 hX hI hv (hR3)) (fun q10a q10b q10c q10d hqq10 => ?_)
          obtain ⟨A11, rq10, eq10, hIq10, hFq10, kq10⟩ := hqq10
          cases eq10
          refine ⟨rfl, rfl, ?_⟩
          rcases kq10 with kq10 | kq10
          · skip
            obtain ⟨erq10, kq10⟩ := kq10
            subst erq10
            show pmE pg X pg_tyl pg_cl (d + 5) 189 59 [.ref 68, .int x1, .int x2, .int x3, .int x4] [.int 0] (cd f A11 R wr) _
            refine pz_if_eq (off := 11) (t := 70) (by decide +kernel) (by decide) rfl kz_0 (fun h12 => ?_) (fun h12 => by omega)
            refine pz_iinc (j := 4) (n := 1) (by decide +kernel) rfl rfl (by decide +kernel) (by omega) (by omega) (fun z13 hz13 => ?_)
            show pmE pg X pg_tyl pg_cl (d + 5) 189 73 [.ref 68, .int x1, .int x2, .int x3, .int z13] [] (cd f A11 R wr) _
            refine pe_goto (off := (-51)) (t := 22) (by decide +kernel) (by decide) rfl ?_
            exact ih A11 x3 z13 hIq10 (fun k n75 n76 n80 n81 n82 => ((hFq10 k n75 n76 n80 n81 n82)).trans ((hF k n75 n76 n80 n81 n82))) (by omega) (by omega)
          · skip
            obtain ⟨erq10, kq10⟩ := kq10
            subst erq10
            show pmE pg X pg_tyl pg_cl (d + 5) 189 59 [.ref 68, .int x1, .int x2, .int x3, .int x4] [.int 1] (cd f A11 R wr) _
            refine pz_if_eq (off := 11) (t := 70) (by decide +kernel) (by decide) rfl kz_1 (fun h14 => by omega) (fun h14 => ?_)
            refine pe_aload_n (j := 0) (by decide +kernel) rfl ?_
            refine pe_get (j := 28) (ci := 10) (n := 4) (by decide +kernel) (by decide +kernel) cd_o68 rfl ?_
            refine pe_iload (j := 4) (by decide +kernel) rfl ?_
            refine pz_iald (by decide +kernel) cd_a77 (cl_77 hIq10) rfl (by omega) (by omega) (fun v15 ev15 => ?_)
            rw [show A11 77 = A0 77 from ((hFq10 77 (by decide) (by decide) (by decide) (by decide) (by decide))).trans ((hF 77 (by decide) (by decide) (by decide) (by decide) (by decide)))] at ev15
            rw [ev15.trans ev5.symm]
            clear ev15 v15
            refine pe_istore_n (j := 3) (ls' := [.ref 68, .int x1, .int x2, .int v5, .int x4]) (by decide +kernel) (Nat.le_of_ble_eq_true rfl) rfl ?_
            refine pz_iinc (j := 4) (n := 1) (by decide +kernel) rfl rfl (by decide +kernel) (by omega) (by omega) (fun z16 hz16 => ?_)
            show pmE pg X pg_tyl pg_cl (d + 5) 189 73 [.ref 68, .int x1, .int x2, .int v5, .int z16] [] (cd f A11 R wr) _
            refine pe_goto (off := (-51)) (t := 22) (by decide +kernel) (by decide) rfl ?_
            exact ih A11 v5 z16 hIq10 (fun k n75 n76 n80 n81 n82 => ((hFq10 k n75 n76 n80 n81 n82)).trans ((hF k n75 n76 n80 n81 n82))) (by omega) (by omega)
set_option maxRecDepth 100000 in
set_option maxHeartbeats 8000000 in
theorem CM_189 {X : pm_X} {d : Nat} {wr : pm_W} {f : Nat → Int32} {A : Nat → List Int32} {R : Nat → Value} {x1 x2 : Int32} {v : Nat} (hX : XO X) (hI : CI f A R) (hv : VV v) (hR3 : R 3 = .ref v) (gx1 : (0 ≤ x1.toInt ∧ x1.toInt ≤ 8)) (gx2 : (0 ≤ x2.toInt ∧ x2.toInt ≤ 8)) : pmE pg X pg_tyl pg_cl (d + 5) 189 0 (pm_ent (pm_max pg 189) [.ref 68, .int x1, .int x2]) [] (cd f A R wr) (fun q => ∃ (A' : Nat → List Int32) (r : Int32), q = (some (.int r), cd f A' R wr, 0, 0) ∧ CI f A' R ∧ (∀ k : Nat, k ≠ 74 → k ≠ 75 → k ≠ 76 → k ≠ 80 → k ≠ 81 → k ≠ 82 → A' k = A k) ∧ ((True ∧ True))) := by
  have bv := VV_b hv
  show pmE pg X pg_tyl pg_cl (d + 5) 189 0 [.ref 68, .int x1, .int x2, pm_dead, pm_dead] [] (cd f A R wr) _
  refine pe_aload_n (j := 0) (by decide +kernel) rfl ?_
  refine pe_get (j := 118) (ci := 10) (n := 8) (by decide +kernel) (by decide +kernel) cd_o68 rfl ?_
  refine pe_istore_n (j := 3) (ls' := [.ref 68, .int x1, .int x2, .int (f 1096), pm_dead]) (by decide +kernel) (Nat.le_of_ble_eq_true rfl) rfl ?_
  refine pe_aload_n (j := 0) (by decide +kernel) rfl ?_
  refine pe_get (j := 18) (ci := 10) (n := 1) (by decide +kernel) (by decide +kernel) cd_o68 rfl ?_
  refine pe_iload_n (j := 1) (by decide +kernel) rfl ?_
  refine pe_iload_n (j := 2) (by decide +kernel) rfl ?_
  refine pi_S (j := 53) (mj := 52) (by decide +kernel) (by decide +kernel) rfl ?_
  show pmE pg X pg_tyl pg_cl (d + 4) 52 0 [.int x1, .int x2] [] (cd f A R wr) _
  refine pe_iload_n (j := 0) (by decide +kernel) rfl ?_
  refine pe_bipushv (n := 9) (v := 9) (by decide +kernel) (by decide +kernel) ?_
  refine pz_mul (by decide +kernel) rfl kz_9 (by omega) (by omega) (fun z1 hz1 => ?_)
  refine pe_iload_n (j := 1) (by decide +kernel) rfl ?_
  refine pz_add (by decide +kernel) hz1 rfl (by omega) (by omega) (fun z2 hz2 => ?_)
  clear hz1
  refine pe_iret (by decide +kernel) rfl rfl ⟨rfl, rfl, ?_⟩
  show pmE pg X pg_tyl pg_cl (d + 5) 189 14 [.ref 68, .int x1, .int x2, .int (f 1096), pm_dead] [.int z2, .ref 74] (cd f A R wr) _
  refine pe_dup2 (by decide +kernel) ⟨rfl, rfl⟩ ?_
  refine pz_iald (by decide +kernel) cd_a74 (cl_74 hI) hz2 (by omega) (by omega) (fun v3 ev3 => ?_)
  refine pe_iconstv (n := 1) (v := 1) (by decide +kernel) (by decide +kernel) ?_
  refine pw_add (by decide +kernel) (fun z4 => ?_)
  refine cz_st74 (by decide +kernel) hI hz2 (by omega) (by omega) (fun A5 eA5 hIA5 => ?_)
  refine pe_iconstv (n := 0) (v := 0) (by decide +kernel) (by decide +kernel) ?_
  refine pe_istore (j := 4) (ls' := [.ref 68, .int x1, .int x2, .int (f 1096), .int 0]) (by decide +kernel) (Nat.le_of_ble_eq_true rfl) rfl ?_
  refine CL_189_22 hX hv (hR3) (by omega) (by omega) (fun A6 y7 y8 hIy9 hFA6 gy8 => ?_) 129 A5 (f 1096) 0 hIA5 (fun k _ _ _ _ _ => rfl) (by decide +kernel) (by decide +kernel)
  refine pe_aload_n (j := 0) (by decide +kernel) rfl ?_
  refine pe_get (j := 18) (ci := 10) (n := 1) (by decide +kernel) (by decide +kernel) cd_o68 rfl ?_
  refine pe_iload_n (j := 1) (by decide +kernel) rfl ?_
  refine pe_iload_n (j := 2) (by decide +kernel) rfl ?_
  refine pi_S (j := 53) (mj := 52) (by decide +kernel) (by decide +kernel) rfl ?_
  show pmE pg X pg_tyl pg_cl (d + 4) 52 0 [.int x1, .int x2] [] (cd f A6 R wr) _
  refine pe_iload_n (j := 0) (by decide +kernel) rfl ?_
  refine pe_bipushv (n := 9) (v := 9) (by decide +kernel) (by decide +kernel) ?_
  refine pz_mul (by decide +kernel) rfl kz_9 (by omega) (by omega) (fun z10 hz10 => ?_)
  refine pe_iload_n (j := 1) (by decide +kernel) rfl ?_
  refine pz_add (by decide +kernel) hz10 rfl (by omega) (by omega) (fun z11 hz11 => ?_)
  clear hz10
  refine pe_iret (by decide +kernel) rfl rfl ⟨rfl, rfl, ?_⟩
  show pmE pg X pg_tyl pg_cl (d + 5) 189 85 [.ref 68, .int x1, .int x2, .int y7, .int y8] [.int z11, .ref 74] (cd f A6 R wr) _
  refine pe_dup2 (by decide +kernel) ⟨rfl, rfl⟩ ?_
  refine pz_iald (by decide +kernel) cd_a74 (cl_74 hIy9) hz11 (by omega) (by omega) (fun v12 ev12 => ?_)
  rw [show A6 74 = A5 74 from (hFA6 74 (by decide) (by decide) (by decide) (by decide) (by decide))] at ev12
  refine pe_iconstv (n := 1) (v := 1) (by decide +kernel) (by decide +kernel) ?_
  refine pw_sub (by decide +kernel) (fun z13 => ?_)
  refine cz_st74 (by decide +kernel) hIy9 hz11 (by omega) (by omega) (fun A14 eA14 hIA14 => ?_)
  refine pe_iload_n (j := 3) (by decide +kernel) rfl ?_
  refine pe_aload_n (j := 0) (by decide +kernel) rfl ?_
  refine pe_get (j := 118) (ci := 10) (n := 8) (by decide +kernel) (by decide +kernel) cd_o68 rfl ?_
  refine pw_sub (by decide +kernel) (fun z15 => ?_)
  exact pe_iret (by decide +kernel) rfl rfl ⟨A14, z15, rfl, hIA14, (fun k n74 n75 n76 n80 n81 n82 => (upa_fr eA14 n74).trans (((hFA6 k n75 n76 n80 n81 n82)).trans (upa_fr eA5 n74))), ⟨trivial, trivial⟩⟩
set_option maxRecDepth 100000 in
set_option maxHeartbeats 8000000 in
theorem CL_191_20 {X : pm_X} {d : Nat} {wr : pm_W} {Q : pm_R → Prop} {f : Nat → Int32} {A0 : Nat → List Int32} {R : Nat → Value} {x3 : Int32} {v : Nat} (hX : XO X) (hv : VV v) (hR3 : R 3 = .ref v) (gx3 : (0 ≤ x3.toInt ∧ x3.toInt ≤ 8)) (k_73_0 : ∀ (A' : Nat → List Int32) (y1 : Int32) (y2 : Int32) (y4 : Int32) (v5 : Value), CI f A' R → (∀ k : Nat, k ≠ 74 → k ≠ 75 → k ≠ 76 → k ≠ 80 → k ≠ 81 → k ≠ 82 → A' k = A0 k) → ((-1) ≤ y1.toInt) → (0 ≤ y2.toInt) → (0 ≤ y4.toInt ∧ y4.toInt ≤ 9) → pmE pg X pg_tyl pg_cl (d + 6) 191 73 [.ref 68, .int y1, .int y2, .int x3, .int y4, v5] [] (cd f A' R wr) Q) : ∀ (m : Nat) (A : Nat → List Int32) (x1 : Int32) (x2 : Int32) (x4 : Int32) (u5 : Value), CI f A R → (∀ k : Nat, k ≠ 74 → k ≠ 75 → k ≠ 76 → k ≠ 80 → k ≠ 81 → k ≠ 82 → A k = A0 k) → ((-1) ≤ x1.toInt) → (0 ≤ x2.toInt) → (0 ≤ x4.toInt ∧ x4.toInt ≤ 9) → 9 - x4.toInt < (m : Int) → pmE pg X pg_tyl pg_cl (d + 6) 191 20 [.ref 68, .int x1, .int x2, .int x3, .int x4, u5] [] (cd f A R wr) Q := by
  have bv := VV_b hv
  intro m
  induction m with
  | zero =>
    intro A x1 x2 x4 u5 hI hF gx1 gx2 gx4 hm
    exfalso
    have l0 := zi_lo x4
    have u0 := zi_hi x4
    omega
  | succ m ih =>
    intro A x1 x2 x4 u5 hI hF gx1 gx2 gx4 hm
    refine pe_iload (j := 4) (by decide +kernel) rfl ?_
    refine pe_aload_n (j := 0) (by decide +kernel) rfl ?_
    refine pe_get (j := 12) (ci := 10) (n := 0) (by decide +kernel) (by decide +kernel) cd_o68 rfl ?_
    refine pe_topV (v := .ref v) (hR3) ?_
    refine pe_get (j := 49) (ci := 9) (n := 0) (by decide +kernel) (by decide +kernel) (cv_o hv) rfl ?_
    have hr_f_16v := cv_people hv hI
    refine pz_icmp_ge (off := 44) (t := 73) (by decide +kernel) (by decide) rfl rfl rfl (fun h1 => ?_) (fun h1 => ?_)
    · skip
      exact k_73_0 A x1 x2 x4 (u5) hI (fun k n74 n75 n76 n80 n81 n82 => (hF k n74 n75 n76 n80 n81 n82)) (by omega) (by omega) (by omega)
    · skip
      refine pe_iload_n (j := 3) (by decide +kernel) rfl ?_
      refine pe_iload (j := 4) (by decide +kernel) rfl ?_
      refine pz_icmp_ne (off := 7) (t := 42) (by decide +kernel) (by decide) rfl rfl rfl (fun h2 => ?_) (fun h2 => ?_)
      · skip
        refine pe_aload_n (j := 0) (by decide +kernel) rfl ?_
        refine pe_iload_n (j := 3) (by decide +kernel) rfl ?_
        refine pe_iload (j := 4) (by decide +kernel) rfl ?_
        refine pz_callV (j := 124) (mj := 189) (by decide +kernel) (cll_V (args := [.int x4, .int x3]) (n := 2) (by decide +kernel) rfl rfl cd_o68 (by decide +kernel) (Nat.le_of_ble_eq_true rfl) (Nat.le_of_ble_eq_true rfl)) (CM_189 hX hI hv (hR3) (by omega) (by omega)) (fun q3a q3b q3c q3d hqq3 => ?_)
        obtain ⟨A4, rq3, eq3, hIq3, hFq3, kq3⟩ := hqq3
        cases eq3
        refine ⟨rfl, rfl, ?_⟩
        show pmE pg X pg_tyl pg_cl (d + 6) 191 49 [.ref 68, .int x1, .int x2, .int x3, .int x4, u5] [.int rq3] (cd f A4 R wr) _
        refine pe_istore (j := 5) (ls' := [.ref 68, .int x1, .int x2, .int x3, .int x4, .int rq3]) (by decide +kernel) (Nat.le_of_ble_eq_true rfl) rfl ?_
        refine pe_iload (j := 5) (by decide +kernel) rfl ?_
        refine pe_iload_n (j := 2) (by decide +kernel) rfl ?_
        have lw6 := zi_lo rq3
        have uw6 := zi_hi rq3
        have lw7 := zi_lo x2
        have uw7 := zi_hi x2
        refine pz_icmp_le (off := 13) (t := 67) (by decide +kernel) (by decide) rfl rfl rfl (fun h5 => ?_) (fun h5 => ?_)
        · skip
          refine pz_iinc (j := 4) (n := 1) (by decide +kernel) rfl rfl (by decide +kernel) (by omega) (by omega) (fun z8 hz8 => ?_)
          show pmE pg X pg_tyl pg_cl (d + 6) 191 70 [.ref 68, .int x1, .int x2, .int x3, .int z8, .int rq3] [] (cd f A4 R wr) _
          refine pe_goto (off := (-50)) (t := 20) (by decide +kernel) (by decide) rfl ?_
          exact ih A4 x1 x2 z8 (.int rq3) hIq3 (fun k n74 n75 n76 n80 n81 n82 => ((hFq3 k n74 n75 n76 n80 n81 n82)).trans ((hF k n74 n75 n76 n80 n81 n82))) (by omega) (by omega) (by omega) (by omega)
        · skip
          refine pe_iload_n (j := 3) (by decide +kernel) rfl ?_
          refine pe_iload (j := 4) (by decide +kernel) rfl ?_
          refine pi_S (j := 53) (mj := 52) (by decide +kernel) (by decide +kernel) rfl ?_
          show pmE pg X pg_tyl pg_cl (d + 5) 52 0 [.int x3, .int x4] [] (cd f A4 R wr) _
          refine pe_iload_n (j := 0) (by decide +kernel) rfl ?_
          refine pe_bipushv (n := 9) (v := 9) (by decide +kernel) (by decide +kernel) ?_
          refine pz_mul (by decide +kernel) rfl kz_9 (by omega) (by omega) (fun z9 hz9 => ?_)
          refine pe_iload_n (j := 1) (by decide +kernel) rfl ?_
          refine pz_add (by decide +kernel) hz9 rfl (by omega) (by omega) (fun z10 hz10 => ?_)
          clear hz9
          refine pe_iret (by decide +kernel) rfl rfl ⟨rfl, rfl, ?_⟩
          show pmE pg X pg_tyl pg_cl (d + 6) 191 63 [.ref 68, .int x1, .int x2, .int x3, .int x4, .int rq3] [.int z10] (cd f A4 R wr) _
          refine pe_istore_n (j := 1) (ls' := [.ref 68, .int z10, .int x2, .int x3, .int x4, .int rq3]) (by decide +kernel) (Nat.le_of_ble_eq_true rfl) rfl ?_
          refine pe_iload (j := 5) (by decide +kernel) rfl ?_
          refine pe_istore_n (j := 2) (ls' := [.ref 68, .int z10, .int rq3, .int x3, .int x4, .int rq3]) (by decide +kernel) (Nat.le_of_ble_eq_true rfl) rfl ?_
          refine pz_iinc (j := 4) (n := 1) (by decide +kernel) rfl rfl (by decide +kernel) (by omega) (by omega) (fun z11 hz11 => ?_)
          show pmE pg X pg_tyl pg_cl (d + 6) 191 70 [.ref 68, .int z10, .int rq3, .int x3, .int z11, .int rq3] [] (cd f A4 R wr) _
          refine pe_goto (off := (-50)) (t := 20) (by decide +kernel) (by decide) rfl ?_
          exact ih A4 z10 rq3 z11 (.int rq3) hIq3 (fun k n74 n75 n76 n80 n81 n82 => ((hFq3 k n74 n75 n76 n80 n81 n82)).trans ((hF k n74 n75 n76 n80 n81 n82))) (by omega) (by omega) (by omega) (by omega)
      · skip
        refine pe_iconstv (n := 0) (v := 0) (by decide +kernel) (by decide +kernel) ?_
        refine pe_goto (off := 10) (t := 49) (by decide +kernel) (by decide) rfl ?_
        refine pe_istore (j := 5) (ls' := [.ref 68, .int x1, .int x2, .int x3, .int x4, .int 0]) (by decide +kernel) (Nat.le_of_ble_eq_true rfl) rfl ?_
        refine pe_iload (j := 5) (by decide +kernel) rfl ?_
        refine pe_iload_n (j := 2) (by decide +kernel) rfl ?_
        have lw13 := zi_lo x2
        have uw13 := zi_hi x2
        refine pz_icmp_le (off := 13) (t := 67) (by decide +kernel) (by decide) rfl kz_0 rfl (fun h12 => ?_) (fun h12 => by omega)
        refine pz_iinc (j := 4) (n := 1) (by decide +kernel) rfl rfl (by decide +kernel) (by omega) (by omega) (fun z14 hz14 => ?_)
        show pmE pg X pg_tyl pg_cl (d + 6) 191 70 [.ref 68, .int x1, .int x2, .int x3, .int z14, .int 0] [] (cd f A R wr) _
        refine pe_goto (off := (-50)) (t := 20) (by decide +kernel) (by decide) rfl ?_
        exact ih A x1 x2 z14 (.int 0) hI (fun k n74 n75 n76 n80 n81 n82 => (hF k n74 n75 n76 n80 n81 n82)) (by omega) (by omega) (by omega) (by omega)
set_option maxRecDepth 100000 in
set_option maxHeartbeats 8000000 in
theorem CL_191_6 {X : pm_X} {d : Nat} {wr : pm_W} {Q : pm_R → Prop} {f : Nat → Int32} {A0 : Nat → List Int32} {R : Nat → Value} {v : Nat} (hX : XO X) (hv : VV v) (hR3 : R 3 = .ref v) (k_79_0 : ∀ (A' : Nat → List Int32) (y1 : Int32) (y2 : Int32) (y3 : Int32) (v4 : Value) (v5 : Value), CI f A' R → (∀ k : Nat, k ≠ 74 → k ≠ 75 → k ≠ 76 → k ≠ 80 → k ≠ 81 → k ≠ 82 → A' k = A0 k) → ((-1) ≤ y1.toInt) → (0 ≤ y2.toInt) → (0 ≤ y3.toInt ∧ y3.toInt ≤ 9) → pmE pg X pg_tyl pg_cl (d + 6) 191 79 [.ref 68, .int y1, .int y2, .int y3, v4, v5] [] (cd f A' R wr) Q) : ∀ (m : Nat) (A : Nat → List Int32) (x1 : Int32) (x2 : Int32) (x3 : Int32) (u4 : Value) (u5 : Value), CI f A R → (∀ k : Nat, k ≠ 74 → k ≠ 75 → k ≠ 76 → k ≠ 80 → k ≠ 81 → k ≠ 82 → A k = A0 k) → ((-1) ≤ x1.toInt) → (0 ≤ x2.toInt) → (0 ≤ x3.toInt ∧ x3.toInt ≤ 9) → 9 - x3.toInt < (m : Int) → pmE pg X pg_tyl pg_cl (d + 6) 191 6 [.ref 68, .int x1, .int x2, .int x3, u4, u5] [] (cd f A R wr) Q := by
  have bv := VV_b hv
  intro m
  induction m with
  | zero =>
    intro A x1 x2 x3 u4 u5 hI hF gx1 gx2 gx3 hm
    exfalso
    have l0 := zi_lo x3
    have u0 := zi_hi x3
    omega
  | succ m ih =>
    intro A x1 x2 x3 u4 u5 hI hF gx1 gx2 gx3 hm
    refine pe_iload_n (j := 3) (by decide +kernel) rfl ?_
    refine pe_aload_n (j := 0) (by decide +kernel) rfl ?_
    refine pe_get (j := 12) (ci := 10) (n := 0) (by decide +kernel) (by decide +kernel) cd_o68 rfl ?_
    refine pe_topV (v := .ref v) (hR3) ?_
    refine pe_get (j := 49) (ci := 9) (n := 0) (by decide +kernel) (by decide +kernel) (cv_o hv) rfl ?_
    have hr_f_16v := cv_people hv hI
    refine pz_icmp_ge (off := 65) (t := 79) (by decide +kernel) (by decide) rfl rfl rfl (fun h1 => ?_) (fun h1 => ?_)
    · skip
      exact k_79_0 A x1 x2 x3 (u4) (u5) hI (fun k n74 n75 n76 n80 n81 n82 => (hF k n74 n75 n76 n80 n81 n82)) (by omega) (by omega) (by omega)
    · skip
      refine pe_iconstv (n := 0) (v := 0) (by decide +kernel) (by decide +kernel) ?_
      refine pe_istore (j := 4) (ls' := [.ref 68, .int x1, .int x2, .int x3, .int 0, u5]) (by decide +kernel) (Nat.le_of_ble_eq_true rfl) rfl ?_
      refine CL_191_20 hX hv (hR3) (by omega) (fun A2 y3 y4 y5 u6 hIy7 hFA2 gy3 gy4 gy5 => ?_) 10 A x1 x2 0 (u5) hI (fun k _ _ _ _ _ _ => rfl) (by omega) (by omega) (by decide +kernel) (by decide +kernel)
      refine pz_iinc (j := 3) (n := 1) (by decide +kernel) rfl rfl (by decide +kernel) (by omega) (by omega) (fun z8 hz8 => ?_)
      show pmE pg X pg_tyl pg_cl (d + 6) 191 76 [.ref 68, .int y3, .int y4, .int z8, .int y5, u6] [] (cd f A2 R wr) _
      refine pe_goto (off := (-70)) (t := 6) (by decide +kernel) (by decide) rfl ?_
      exact ih A2 y3 y4 z8 (.int y5) (u6) hIy7 (fun k n74 n75 n76 n80 n81 n82 => ((hFA2 k n74 n75 n76 n80 n81 n82)).trans ((hF k n74 n75 n76 n80 n81 n82))) (by omega) (by omega) (by omega) (by omega)
set_option maxRecDepth 100000 in
set_option maxHeartbeats 8000000 in
theorem CM_191 {X : pm_X} {d : Nat} {wr : pm_W} {f : Nat → Int32} {A : Nat → List Int32} {R : Nat → Value} {v : Nat} (hX : XO X) (hI : CI f A R) (hv : VV v) (hR3 : R 3 = .ref v) : pmE pg X pg_tyl pg_cl (d + 6) 191 0 (pm_ent (pm_max pg 191) [.ref 68]) [] (cd f A R wr) (fun q => ∃ (A' : Nat → List Int32) (r : Int32), q = (some (.int r), cd f A' R wr, 0, 0) ∧ CI f A' R ∧ (∀ k : Nat, k ≠ 74 → k ≠ 75 → k ≠ 76 → k ≠ 80 → k ≠ 81 → k ≠ 82 → A' k = A k) ∧ ((((-1) ≤ r.toInt) ∧ True))) := by
  have bv := VV_b hv
  show pmE pg X pg_tyl pg_cl (d + 6) 191 0 [.ref 68, pm_dead, pm_dead, pm_dead, pm_dead, pm_dead] [] (cd f A R wr) _
  refine pe_iconstv (n := (-1)) (v := (-1)) (by decide +kernel) (by decide +kernel) ?_
  refine pe_istore_n (j := 1) (ls' := [.ref 68, .int (-1), pm_dead, pm_dead, pm_dead, pm_dead]) (by decide +kernel) (Nat.le_of_ble_eq_true rfl) rfl ?_
  refine pe_iconstv (n := 0) (v := 0) (by decide +kernel) (by decide +kernel) ?_
  refine pe_istore_n (j := 2) (ls' := [.ref 68, .int (-1), .int 0, pm_dead, pm_dead, pm_dead]) (by decide +kernel) (Nat.le_of_ble_eq_true rfl) rfl ?_
  refine pe_iconstv (n := 0) (v := 0) (by decide +kernel) (by decide +kernel) ?_
  refine pe_istore_n (j := 3) (ls' := [.ref 68, .int (-1), .int 0, .int 0, pm_dead, pm_dead]) (by decide +kernel) (Nat.le_of_ble_eq_true rfl) rfl ?_
  refine CL_191_6 hX hv (hR3) (fun A1 y2 y3 y4 u5 u6 hIy7 hFA1 gy2 gy3 gy4 => ?_) 10 A (-1) 0 0 (pm_dead) (pm_dead) hI (fun k _ _ _ _ _ _ => rfl) (by decide +kernel) (by decide +kernel) (by decide +kernel) (by decide +kernel)
  refine pe_iload_n (j := 1) (by decide +kernel) rfl ?_
  exact pe_iret (by decide +kernel) rfl rfl ⟨A1, y2, rfl, hIy7, (fun k n74 n75 n76 n80 n81 n82 => (hFA1 k n74 n75 n76 n80 n81 n82)), ⟨(by omega), trivial⟩⟩
set_option maxRecDepth 100000 in
set_option maxHeartbeats 8000000 in
theorem CL_184_13 {X : pm_X} {d : Nat} {wr : pm_W} {Q : pm_R → Prop} {f : Nat → Int32} {A0 : Nat → List Int32} {R : Nat → Value} {v : Nat} (hX : XO X) (hv : VV v) (hR3 : R 3 = .ref v) (k_69_0 : ∀ (A' : Nat → List Int32) (y2 : Int32) (y3 : Int32) (y4 : Int32) (v5 : Value), CI f A' R → (∀ k : Nat, k ≠ 74 → k ≠ 75 → k ≠ 76 → k ≠ 80 → k ≠ 81 → k ≠ 82 → A' k = A0 k) → (0 ≤ y4.toInt ∧ y4.toInt ≤ 100) → pmE pg X pg_tyl pg_cl (d + 5) 184 69 [.ref 68, .ref v, .int y2, .int y3, .int y4, v5] [] (cd f A' R wr) Q) : ∀ (m : Nat) (A : Nat → List Int32) (x2 : Int32) (x3 : Int32) (x4 : Int32) (u5 : Value), CI f A R → (∀ k : Nat, k ≠ 74 → k ≠ 75 → k ≠ 76 → k ≠ 80 → k ≠ 81 → k ≠ 82 → A k = A0 k) → (0 ≤ x4.toInt ∧ x4.toInt ≤ 100) → 100 - x4.toInt < (m : Int) → pmE pg X pg_tyl pg_cl (d + 5) 184 13 [.ref 68, .ref v, .int x2, .int x3, .int x4, u5] [] (cd f A R wr) Q := by
  have bv := VV_b hv
  intro m
  induction m with
  | zero =>
    intro A x2 x3 x4 u5 hI hF gx4 hm
    exfalso
    have l0 := zi_lo x4
    have u0 := zi_hi x4
    omega
  | succ m ih =>
    intro A x2 x3 x4 u5 hI hF gx4 hm
    refine pe_iload (j := 4) (by decide +kernel) rfl ?_
    refine pe_bipushv (n := 99) (v := 99) (by decide +kernel) (by decide +kernel) ?_
    refine pz_icmp_gt (off := 52) (t := 69) (by decide +kernel) (by decide) rfl rfl kz_99 (fun h1 => ?_) (fun h1 => ?_)
    · skip
      exact k_69_0 A x2 x3 x4 (u5) hI (fun k n74 n75 n76 n80 n81 n82 => (hF k n74 n75 n76 n80 n81 n82)) (by omega)
    · skip
      refine pe_iload_n (j := 3) (by decide +kernel) rfl ?_
      refine pe_iload_n (j := 2) (by decide +kernel) rfl ?_
      refine pw_sub (by decide +kernel) (fun z2 => ?_)
      refine pe_iconstv (n := 1) (v := 1) (by decide +kernel) (by decide +kernel) ?_
      have lw4 := zi_lo z2
      have uw4 := zi_hi z2
      refine pz_icmp_le (off := 45) (t := 69) (by decide +kernel) (by decide) rfl rfl kz_1 (fun h3 => ?_) (fun h3 => ?_)
      · skip
        exact k_69_0 A x2 x3 x4 (u5) hI (fun k n74 n75 n76 n80 n81 n82 => (hF k n74 n75 n76 n80 n81 n82)) (by omega)
      · skip
        refine pe_iload_n (j := 3) (by decide +kernel) rfl ?_
        refine pe_iload_n (j := 2) (by decide +kernel) rfl ?_
        refine pw_add (by decide +kernel) (fun z5 => ?_)
        refine pe_iconstv (n := 1) (v := 1) (by decide +kernel) (by decide +kernel) ?_
        refine pw_shr (by decide +kernel) (fun z6 => ?_)
        refine pe_istore (j := 5) (ls' := [.ref 68, .ref v, .int x2, .int x3, .int x4, .int z6]) (by decide +kernel) (Nat.le_of_ble_eq_true rfl) rfl ?_
        refine pe_aload_n (j := 0) (by decide +kernel) rfl ?_
        refine pe_iload (j := 5) (by decide +kernel) rfl ?_
        refine pz_callV (j := 127) (mj := 185) (by decide +kernel) (cll_V (args := [.int z6]) (n := 1) (by decide +kernel) rfl rfl cd_o68 (by decide +kernel) (Nat.le_of_ble_eq_true rfl) (Nat.le_of_ble_eq_true rfl)) (CM_185 hX hI hv (hR3)) (fun q7a q7b q7c q7d hqq7 => ?_)
        obtain ⟨A8, eq7, hIq7, hFq7, kq7⟩ := hqq7
        cases eq7
        refine ⟨rfl, rfl, ?_⟩
        show pmE pg X pg_tyl pg_cl (d + 5) 184 40 [.ref 68, .ref v, .int x2, .int x3, .int x4, .int z6] [] (cd f A8 R wr) _
        refine pe_aload_n (j := 0) (by decide +kernel) rfl ?_
        refine pe_aload_n (j := 0) (by decide +kernel) rfl ?_
        refine pe_get (j := 63) (ci := 10) (n := 7) (by decide +kernel) (by decide +kernel) cd_o68 rfl ?_
        have hr_f_1095 := cf_1095 hIq7
        refine pe_iconstv (n := 1) (v := 1) (by decide +kernel) (by decide +kernel) ?_
        refine pz_sub (by decide +kernel) rfl kz_1 (by omega) (by omega) (fun z9 hz9 => ?_)
        refine pe_iconstv (n := 0) (v := 0) (by decide +kernel) (by decide +kernel) ?_
        refine pz_callV (j := 107) (mj := 169) (by decide +kernel) (cll_V (args := [.int 0, .int z9]) (n := 2) (by decide +kernel) rfl rfl cd_o68 (by decide +kernel) (Nat.le_of_ble_eq_true rfl) (Nat.le_of_ble_eq_true rfl)) (CM_169 hX hIq7 hv (hR3)) (fun q10a q10b q10c q10d hqq10 => ?_)
        obtain ⟨A11, rq10, eq10, hIq10, hFq10, kq10⟩ := hqq10
        cases eq10
        refine ⟨rfl, rfl, ?_⟩
        rcases kq10 with kq10 | kq10
        · skip
          obtain ⟨erq10, kq10⟩ := kq10
          subst erq10
          show pmE pg X pg_tyl pg_cl (d + 5) 184 51 [.ref 68, .ref v, .int x2, .int x3, .int x4, .int z6] [.int 0] (cd f A11 R wr) _
          refine pz_if_eq (off := 9) (t := 60) (by decide +kernel) (by decide) rfl kz_0 (fun h12 => ?_) (fun h12 => by omega)
          refine pe_iload (j := 5) (by decide +kernel) rfl ?_
          refine pe_istore_n (j := 2) (ls' := [.ref 68, .ref v, .int z6, .int x3, .int x4, .int z6]) (by decide +kernel) (Nat.le_of_ble_eq_true rfl) rfl ?_
          refine pz_iinc (j := 4) (n := 1) (by decide +kernel) rfl rfl (by decide +kernel) (by omega) (by omega) (fun z13 hz13 => ?_)
          show pmE pg X pg_tyl pg_cl (d + 5) 184 66 [.ref 68, .ref v, .int z6, .int x3, .int z13, .int z6] [] (cd f A11 R wr) _
          refine pe_goto (off := (-53)) (t := 13) (by decide +kernel) (by decide) rfl ?_
          exact ih A11 z6 x3 z13 (.int z6) hIq10 (fun k n74 n75 n76 n80 n81 n82 => ((hFq10 k n75 n76 n80 n81 n82)).trans (((hFq7 k n74)).trans ((hF k n74 n75 n76 n80 n81 n82)))) (by omega) (by omega)
        · skip
          obtain ⟨erq10, kq10⟩ := kq10
          subst erq10
          show pmE pg X pg_tyl pg_cl (d + 5) 184 51 [.ref 68, .ref v, .int x2, .int x3, .int x4, .int z6] [.int 1] (cd f A11 R wr) _
          refine pz_if_eq (off := 9) (t := 60) (by decide +kernel) (by decide) rfl kz_1 (fun h14 => by omega) (fun h14 => ?_)
          refine pe_iload (j := 5) (by decide +kernel) rfl ?_
          refine pe_istore_n (j := 3) (ls' := [.ref 68, .ref v, .int x2, .int z6, .int x4, .int z6]) (by decide +kernel) (Nat.le_of_ble_eq_true rfl) rfl ?_
          refine pe_goto (off := 6) (t := 63) (by decide +kernel) (by decide) rfl ?_
          refine pz_iinc (j := 4) (n := 1) (by decide +kernel) rfl rfl (by decide +kernel) (by omega) (by omega) (fun z15 hz15 => ?_)
          show pmE pg X pg_tyl pg_cl (d + 5) 184 66 [.ref 68, .ref v, .int x2, .int z6, .int z15, .int z6] [] (cd f A11 R wr) _
          refine pe_goto (off := (-53)) (t := 13) (by decide +kernel) (by decide) rfl ?_
          exact ih A11 x2 z6 z15 (.int z6) hIq10 (fun k n74 n75 n76 n80 n81 n82 => ((hFq10 k n75 n76 n80 n81 n82)).trans (((hFq7 k n74)).trans ((hF k n74 n75 n76 n80 n81 n82)))) (by omega) (by omega)
set_option maxRecDepth 100000 in
set_option maxHeartbeats 8000000 in
theorem CM_184 {X : pm_X} {d : Nat} {wr : pm_W} {f : Nat → Int32} {A : Nat → List Int32} {R : Nat → Value} {v : Nat} (hX : XO X) (hI : CI f A R) (hv : VV v) : pmE pg X pg_tyl pg_cl (d + 5) 184 0 (pm_ent (pm_max pg 184) [.ref 68, .ref v]) [] (cd f A R wr) (fun q => ∃ (f' : Nat → Int32) (A' : Nat → List Int32) (R' : Nat → Value) (r : Int32), q = (some (.int r), cd f' A' R' wr, 0, 0) ∧ CI f' A' R' ∧ (∀ k : Nat, k ≠ 1095 → f' k = f k) ∧ (∀ k : Nat, k ≠ 74 → k ≠ 75 → k ≠ 76 → k ≠ 77 → k ≠ 80 → k ≠ 81 → k ≠ 82 → A' k = A k) ∧ (∀ k : Nat, k ≠ 3 → R' k = R k) ∧ (((r.toInt ≤ 99) ∧ True))) := by
  have bv := VV_b hv
  show pmE pg X pg_tyl pg_cl (d + 5) 184 0 [.ref 68, .ref v, pm_dead, pm_dead, pm_dead, pm_dead] [] (cd f A R wr) _
  refine pe_aload_n (j := 0) (by decide +kernel) rfl ?_
  refine pe_aload_n (j := 1) (by decide +kernel) rfl ?_
  refine pz_callV (j := 45) (mj := 160) (by decide +kernel) (cll_V (args := [.ref v]) (n := 1) (by decide +kernel) rfl rfl cd_o68 (by decide +kernel) (Nat.le_of_ble_eq_true rfl) (Nat.le_of_ble_eq_true rfl)) (CM_160 hX hI hv) (fun q1a q1b q1c q1d hqq1 => ?_)
  obtain ⟨f2, A3, R4, eq1, hIq1, hGq1, hFq1, hHq1, hS3q1, kq1⟩ := hqq1
  cases eq1
  refine ⟨rfl, rfl, ?_⟩
  show pmE pg X pg_tyl pg_cl (d + 5) 184 5 [.ref 68, .ref v, pm_dead, pm_dead, pm_dead, pm_dead] [] (cd f2 A3 R4 wr) _
  refine pe_iconstv (n := (-1)) (v := (-1)) (by decide +kernel) (by decide +kernel) ?_
  refine pe_istore_n (j := 2) (ls' := [.ref 68, .ref v, .int (-1), pm_dead, pm_dead, pm_dead]) (by decide +kernel) (Nat.le_of_ble_eq_true rfl) rfl ?_
  refine pe_bipushv (n := 100) (v := 100) (by decide +kernel) (by decide +kernel) ?_
  refine pe_istore_n (j := 3) (ls' := [.ref 68, .ref v, .int (-1), .int 100, pm_dead, pm_dead]) (by decide +kernel) (Nat.le_of_ble_eq_true rfl) rfl ?_
  refine pe_iconstv (n := 0) (v := 0) (by decide +kernel) (by decide +kernel) ?_
  refine pe_istore (j := 4) (ls' := [.ref 68, .ref v, .int (-1), .int 100, .int 0, pm_dead]) (by decide +kernel) (Nat.le_of_ble_eq_true rfl) rfl ?_
  refine CL_184_13 hX hv (hS3q1) (fun A5 y6 y7 y8 u9 hIy10 hFA5 gy8 => ?_) 101 A3 (-1) 100 0 (pm_dead) hIq1 (fun k _ _ _ _ _ _ => rfl) (by decide +kernel) (by decide +kernel)
  refine pe_iload_n (j := 3) (by decide +kernel) rfl ?_
  refine pe_bipushv (n := 99) (v := 99) (by decide +kernel) (by decide +kernel) ?_
  have lw12 := zi_lo y7
  have uw12 := zi_hi y7
  refine pz_icmp_le (off := 7) (t := 79) (by decide +kernel) (by decide) rfl rfl kz_99 (fun h11 => ?_) (fun h11 => ?_)
  · skip
    refine pe_iload_n (j := 3) (by decide +kernel) rfl ?_
    exact pe_iret (by decide +kernel) rfl rfl ⟨f2, A5, R4, y7, rfl, hIy10, (fun k n1095 => (hGq1 k n1095)), (fun k n74 n75 n76 n77 n80 n81 n82 => ((hFA5 k n74 n75 n76 n80 n81 n82)).trans ((hFq1 k n77))), (fun k n3 => (hHq1 k n3)), ⟨(by omega), trivial⟩⟩
  · skip
    refine pe_iconstv (n := (-1)) (v := (-1)) (by decide +kernel) (by decide +kernel) ?_
    refine pe_goto (off := 4) (t := 80) (by decide +kernel) (by decide) rfl ?_
    exact pe_iret (by decide +kernel) rfl rfl ⟨f2, A5, R4, (-1), rfl, hIy10, (fun k n1095 => (hGq1 k n1095)), (fun k n74 n75 n76 n77 n80 n81 n82 => ((hFA5 k n74 n75 n76 n80 n81 n82)).trans ((hFq1 k n77))), (fun k n3 => (hHq1 k n3)), ⟨(by decide +kernel), trivial⟩⟩
