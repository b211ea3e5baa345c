set_option maxRecDepth 100000 in
set_option maxHeartbeats 8000000 in
theorem CL_50_32 {X : pm_X} {d : Nat} {wr : pm_W} {Q : pm_R → Prop} {f : Nat → Int32} {A0 : Nat → List Int32} {R : Nat → Value} {x1 x3 x4 : Int32} (hX : XO X) (gx4 : (0 ≤ x4.toInt ∧ x4.toInt ≤ 261)) (k_71_0 : ∀ (A' : Nat → List Int32) (y5 : Int32), CI f A' R → (∀ k : Nat, k ≠ 30 → A' k = A0 k) → (8 ≤ y5.toInt ∧ y5.toInt ≤ 8) → pmE pg X pg_tyl pg_cl (d) 50 71 [.ref 29, .int x1, .ref 31, .int x3, .int x4, .int y5] [] (cd f A' R wr) Q) : ∀ (m : Nat) (A : Nat → List Int32) (x5 : Int32), CI f A R → (∀ k : Nat, k ≠ 30 → A k = A0 k) → (0 ≤ x5.toInt ∧ x5.toInt ≤ 8) → 8 - x5.toInt < (m : Int) → pmE pg X pg_tyl pg_cl (d) 50 32 [.ref 29, .int x1, .ref 31, .int x3, .int x4, .int x5] [] (cd f A R wr) Q := by
  intro m
  induction m with
  | zero =>
    intro A x5 hI hF gx5 hm
    exfalso
    have l0 := zi_lo x5
    have u0 := zi_hi x5
    omega
  | succ m ih =>
    intro A x5 hI hF gx5 hm
    refine pe_iload (j := 5) (by decide +kernel) rfl ?_
    refine pe_bipushv (n := 8) (v := 8) (by decide +kernel) (by decide +kernel) ?_
    refine pz_icmp_ge (off := 35) (t := 71) (by decide +kernel) (by decide) rfl rfl kz_8 (fun h1 => ?_) (fun h1 => ?_)
    · skip
      exact k_71_0 A x5 hI (fun k n30 => (hF k n30)) (by omega)
    · skip
      refine pe_aload_n (j := 0) (by decide +kernel) rfl ?_
      refine pe_get (j := 9) (ci := 5) (n := 1) (by decide +kernel) (by decide +kernel) cd_o29 rfl ?_
      refine pe_iload (j := 4) (by decide +kernel) rfl ?_
      refine pe_iconstv (n := 1) (v := 1) (by decide +kernel) (by decide +kernel) ?_
      refine pz_add (by decide +kernel) rfl kz_1 (by omega) (by omega) (fun z2 hz2 => ?_)
      refine pe_iload (j := 5) (by decide +kernel) rfl ?_
      refine pz_add (by decide +kernel) hz2 rfl (by omega) (by omega) (fun z3 hz3 => ?_)
      clear hz2
      refine pe_iload (j := 5) (by decide +kernel) rfl ?_
      refine pe_iload_n (j := 3) (by decide +kernel) rfl ?_
      have lw5 := zi_lo x3
      have uw5 := zi_hi x3
      refine pz_icmp_ge (off := 10) (t := 63) (by decide +kernel) (by decide) rfl rfl rfl (fun h4 => ?_) (fun h4 => ?_)
      · skip
        refine pe_iconstv (n := (-1)) (v := (-1)) (by decide +kernel) (by decide +kernel) ?_
        refine cz_st30 (by decide +kernel) hI hz3 (by omega) (by omega) (fun A6 eA6 hIA6 => ?_)
        refine pz_iinc (j := 5) (n := 1) (by decide +kernel) rfl rfl (by decide +kernel) (by omega) (by omega) (fun z7 hz7 => ?_)
        show pmE pg X pg_tyl pg_cl (d) 50 68 [.ref 29, .int x1, .ref 31, .int x3, .int x4, .int z7] [] (cd f A6 R wr) _
        refine pe_goto (off := (-36)) (t := 32) (by decide +kernel) (by decide) rfl ?_
        exact ih A6 z7 hIA6 (fun k n30 => (upa_fr eA6 n30).trans ((hF k n30))) (by omega) (by omega)
      · skip
        refine pe_aload_n (j := 2) (by decide +kernel) rfl ?_
        refine pe_iload (j := 5) (by decide +kernel) rfl ?_
        refine pz_iald (by decide +kernel) cd_a31 (cl_31 hI) rfl (by omega) (by omega) (fun v8 ev8 => ?_)
        rw [show A 31 = A0 31 from (hF 31 (by decide))] at ev8
        refine pe_goto (off := 4) (t := 64) (by decide +kernel) (by decide) rfl ?_
        refine cz_st30 (by decide +kernel) hI hz3 (by omega) (by omega) (fun A9 eA9 hIA9 => ?_)
        refine pz_iinc (j := 5) (n := 1) (by decide +kernel) rfl rfl (by decide +kernel) (by omega) (by omega) (fun z10 hz10 => ?_)
        show pmE pg X pg_tyl pg_cl (d) 50 68 [.ref 29, .int x1, .ref 31, .int x3, .int x4, .int z10] [] (cd f A9 R wr) _
        refine pe_goto (off := (-36)) (t := 32) (by decide +kernel) (by decide) rfl ?_
        exact ih A9 z10 hIA9 (fun k n30 => (upa_fr eA9 n30).trans ((hF k n30))) (by omega) (by omega)
set_option maxRecDepth 100000 in
set_option maxHeartbeats 8000000 in
theorem CM_50 {X : pm_X} {d : Nat} {wr : pm_W} {f : Nat → Int32} {A : Nat → List Int32} {R : Nat → Value} {x1 x3 : Int32} (hX : XO X) (hI : CI f A R) : pmE pg X pg_tyl pg_cl (d) 50 0 (pm_ent (pm_max pg 50) [.ref 29, .int x1, .ref 31, .int x3]) [] (cd f A R wr) (fun q => ∃ (f' : Nat → Int32) (A' : Nat → List Int32), q = (none, cd f' A' R wr, 0, 0) ∧ CI f' A' R ∧ (∀ k : Nat, k ≠ 464 → f' k = f k) ∧ (∀ k : Nat, k ≠ 30 → A' k = A k) ∧ ((True))) := by
  show pmE pg X pg_tyl pg_cl (d) 50 0 [.ref 29, .int x1, .ref 31, .int x3, pm_dead, pm_dead] [] (cd f A R wr) _
  refine pe_aload_n (j := 0) (by decide +kernel) rfl ?_
  refine pe_get (j := 15) (ci := 5) (n := 0) (by decide +kernel) (by decide +kernel) cd_o29 rfl ?_
  have hr_f_464 := cf_464 hI
  refine pe_bipushv (n := 30) (v := 30) (by decide +kernel) (by decide +kernel) ?_
  refine pz_icmp_lt (off := 4) (t := 10) (by decide +kernel) (by decide) rfl rfl kz_30 (fun h1 => ?_) (fun h1 => ?_)
  · skip
    refine pe_aload_n (j := 0) (by decide +kernel) rfl ?_
    refine pe_get (j := 15) (ci := 5) (n := 0) (by decide +kernel) (by decide +kernel) cd_o29 rfl ?_
    refine pe_bipushv (n := 9) (v := 9) (by decide +kernel) (by decide +kernel) ?_
    refine pz_mul (by decide +kernel) rfl kz_9 (by omega) (by omega) (fun z2 hz2 => ?_)
    refine pe_istore (j := 4) (ls' := [.ref 29, .int x1, .ref 31, .int x3, .int z2, pm_dead]) (by decide +kernel) (Nat.le_of_ble_eq_true rfl) rfl ?_
    refine pe_aload_n (j := 0) (by decide +kernel) rfl ?_
    refine pe_get (j := 9) (ci := 5) (n := 1) (by decide +kernel) (by decide +kernel) cd_o29 rfl ?_
    refine pe_iload (j := 4) (by decide +kernel) rfl ?_
    refine pe_iconstv (n := 0) (v := 0) (by decide +kernel) (by decide +kernel) ?_
    refine pz_add (by decide +kernel) hz2 kz_0 (by omega) (by omega) (fun z3 hz3 => ?_)
    refine pe_iload_n (j := 1) (by decide +kernel) rfl ?_
    refine cz_st30 (by decide +kernel) hI hz3 (by omega) (by omega) (fun A4 eA4 hIA4 => ?_)
    refine pe_iconstv (n := 0) (v := 0) (by decide +kernel) (by decide +kernel) ?_
    refine pe_istore (j := 5) (ls' := [.ref 29, .int x1, .ref 31, .int x3, .int z2, .int 0]) (by decide +kernel) (Nat.le_of_ble_eq_true rfl) rfl ?_
    refine CL_50_32 hX (by omega) (fun A5 y6 hIy7 hFA5 gy6 => ?_) 9 A4 0 hIA4 (fun k _ => rfl) (by decide +kernel) (by decide +kernel)
    refine pe_aload_n (j := 0) (by decide +kernel) rfl ?_
    refine pe_dup (by decide +kernel) rfl ?_
    refine pe_get (j := 15) (ci := 5) (n := 0) (by decide +kernel) (by decide +kernel) cd_o29 rfl ?_
    refine pe_iconstv (n := 1) (v := 1) (by decide +kernel) (by decide +kernel) ?_
    refine pz_add (by decide +kernel) rfl kz_1 (by omega) (by omega) (fun z8 hz8 => ?_)
    refine cz_put464 (jj := 15) (by decide +kernel) (by decide +kernel) hIy7 (by omega) (by omega) (fun f9 ef9 hIf9 => ?_)
    exact pe_vret (by decide +kernel) rfl ⟨f9, A5, rfl, hIf9, (fun k n464 => upf_fr ef9 n464), (fun k n30 => ((hFA5 k n30)).trans (upa_fr eA4 n30)), trivial⟩
  · skip
    exact pe_vret (by decide +kernel) rfl ⟨f, A, rfl, hI, (fun k n464 => rfl), (fun k n30 => rfl), trivial⟩
set_option maxRecDepth 100000 in
set_option maxHeartbeats 8000000 in
theorem CL_53_10 {X : pm_X} {d : Nat} {wr : pm_W} {Q : pm_R → Prop} {f : Nat → Int32} {A0 : Nat → List Int32} {R : Nat → Value} {x1 x2 : Int32} (hX : XO X) (gx2 : (0 ≤ x2.toInt ∧ x2.toInt ≤ 8)) (k_42_0 : ∀ (A' : Nat → List Int32) (y3 : Int32), CI f A' R → (∀ k : Nat, k ≠ 25 → A' k = A0 k) → (9 ≤ y3.toInt ∧ y3.toInt ≤ 9) → pmE pg X pg_tyl pg_cl (d + 1) 53 42 [.ref 24, .int x1, .int x2, .int y3] [] (cd f A' R wr) Q) : ∀ (m : Nat) (A : Nat → List Int32) (x3 : Int32), CI f A R → (∀ k : Nat, k ≠ 25 → A k = A0 k) → (0 ≤ x3.toInt ∧ x3.toInt ≤ 9) → 9 - x3.toInt < (m : Int) → pmE pg X pg_tyl pg_cl (d + 1) 53 10 [.ref 24, .int x1, .int x2, .int x3] [] (cd f A R wr) Q := by
  intro m
  induction m with
  | zero =>
    intro A x3 hI hF gx3 hm
    exfalso
    have l0 := zi_lo x3
    have u0 := zi_hi x3
    omega
  | succ m ih =>
    intro A x3 hI hF gx3 hm
    refine pe_iload_n (j := 3) (by decide +kernel) rfl ?_
    refine pe_bipushv (n := 9) (v := 9) (by decide +kernel) (by decide +kernel) ?_
    refine pz_icmp_ge (off := 29) (t := 42) (by decide +kernel) (by decide) rfl rfl kz_9 (fun h1 => ?_) (fun h1 => ?_)
    · skip
      exact k_42_0 A x3 hI (fun k n25 => (hF k n25)) (by omega)
    · skip
      refine pe_aload_n (j := 0) (by decide +kernel) rfl ?_
      refine pe_get (j := 15) (ci := 9) (n := 3) (by decide +kernel) (by decide +kernel) cd_o24 rfl ?_
      refine pe_iload_n (j := 2) (by decide +kernel) rfl ?_
      refine pe_iload_n (j := 3) (by decide +kernel) rfl ?_
      refine pi_S (j := 46) (mj := 52) (by decide +kernel) (by decide +kernel) rfl ?_
      show pmE pg X pg_tyl pg_cl (d) 52 0 [.int x2, .int x3] [] (cd f A R wr) _
      refine pe_iload_n (j := 0) (by decide +kernel) rfl ?_
      refine pe_bipushv (n := 9) (v := 9) (by decide +kernel) (by decide +kernel) ?_
      refine pz_mul (by decide +kernel) rfl kz_9 (by omega) (by omega) (fun z2 hz2 => ?_)
      refine pe_iload_n (j := 1) (by decide +kernel) rfl ?_
      refine pz_add (by decide +kernel) hz2 rfl (by omega) (by omega) (fun z3 hz3 => ?_)
      clear hz2
      refine pe_iret (by decide +kernel) rfl rfl ⟨rfl, rfl, ?_⟩
      show pmE pg X pg_tyl pg_cl (d + 1) 53 25 [.ref 24, .int x1, .int x2, .int x3] [.int z3, .ref 25] (cd f A R wr) _
      refine pe_iload_n (j := 2) (by decide +kernel) rfl ?_
      refine pe_iload_n (j := 3) (by decide +kernel) rfl ?_
      refine pz_icmp_ne (off := 7) (t := 34) (by decide +kernel) (by decide) rfl rfl rfl (fun h4 => ?_) (fun h4 => ?_)
      · skip
        refine pe_iload_n (j := 1) (by decide +kernel) rfl ?_
        refine cz_st25 (by decide +kernel) hI hz3 (by omega) (by omega) (fun A5 eA5 hIA5 => ?_)
        refine pz_iinc (j := 3) (n := 1) (by decide +kernel) rfl rfl (by decide +kernel) (by omega) (by omega) (fun z6 hz6 => ?_)
        show pmE pg X pg_tyl pg_cl (d + 1) 53 39 [.ref 24, .int x1, .int x2, .int z6] [] (cd f A5 R wr) _
        refine pe_goto (off := (-29)) (t := 10) (by decide +kernel) (by decide) rfl ?_
        exact ih A5 z6 hIA5 (fun k n25 => (upa_fr eA5 n25).trans ((hF k n25))) (by omega) (by omega)
      · skip
        refine pe_iconstv (n := 0) (v := 0) (by decide +kernel) (by decide +kernel) ?_
        refine pe_goto (off := 4) (t := 35) (by decide +kernel) (by decide) rfl ?_
        refine cz_st25 (by decide +kernel) hI hz3 (by omega) (by omega) (fun A7 eA7 hIA7 => ?_)
        refine pz_iinc (j := 3) (n := 1) (by decide +kernel) rfl rfl (by decide +kernel) (by omega) (by omega) (fun z8 hz8 => ?_)
        show pmE pg X pg_tyl pg_cl (d + 1) 53 39 [.ref 24, .int x1, .int x2, .int z8] [] (cd f A7 R wr) _
        refine pe_goto (off := (-29)) (t := 10) (by decide +kernel) (by decide) rfl ?_
        exact ih A7 z8 hIA7 (fun k n25 => (upa_fr eA7 n25).trans ((hF k n25))) (by omega) (by omega)
set_option maxRecDepth 100000 in
set_option maxHeartbeats 8000000 in
theorem CL_53_2 {X : pm_X} {d : Nat} {wr : pm_W} {Q : pm_R → Prop} {f : Nat → Int32} {A0 : Nat → List Int32} {R : Nat → Value} {x1 : Int32} (hX : XO X) (k_48_0 : ∀ (A' : Nat → List Int32) (y2 : Int32) (v3 : Value), CI f A' R → (∀ k : Nat, k ≠ 25 → A' k = A0 k) → (9 ≤ y2.toInt ∧ y2.toInt ≤ 9) → pmE pg X pg_tyl pg_cl (d + 1) 53 48 [.ref 24, .int x1, .int y2, v3] [] (cd f A' R wr) Q) : ∀ (m : Nat) (A : Nat → List Int32) (x2 : Int32) (u3 : Value), CI f A R → (∀ k : Nat, k ≠ 25 → A k = A0 k) → (0 ≤ x2.toInt ∧ x2.toInt ≤ 9) → 9 - x2.toInt < (m : Int) → pmE pg X pg_tyl pg_cl (d + 1) 53 2 [.ref 24, .int x1, .int x2, u3] [] (cd f A R wr) Q := by
  intro m
  induction m with
  | zero =>
    intro A x2 u3 hI hF gx2 hm
    exfalso
    have l0 := zi_lo x2
    have u0 := zi_hi x2
    omega
  | succ m ih =>
    intro A x2 u3 hI hF gx2 hm
    refine pe_iload_n (j := 2) (by decide +kernel) rfl ?_
    refine pe_bipushv (n := 9) (v := 9) (by decide +kernel) (by decide +kernel) ?_
    refine pz_icmp_ge (off := 43) (t := 48) (by decide +kernel) (by decide) rfl rfl kz_9 (fun h1 => ?_) (fun h1 => ?_)
    · skip
      exact k_48_0 A x2 (u3) hI (fun k n25 => (hF k n25)) (by omega)
    · skip
      refine pe_iconstv (n := 0) (v := 0) (by decide +kernel) (by decide +kernel) ?_
      refine pe_istore_n (j := 3) (ls' := [.ref 24, .int x1, .int x2, .int 0]) (by decide +kernel) (Nat.le_of_ble_eq_true rfl) rfl ?_
      refine CL_53_10 hX (by omega) (fun A2 y3 hIy4 hFA2 gy3 => ?_) 10 A 0 hI (fun k _ => rfl) (by decide +kernel) (by decide +kernel)
      refine pz_iinc (j := 2) (n := 1) (by decide +kernel) rfl rfl (by decide +kernel) (by omega) (by omega) (fun z5 hz5 => ?_)
      show pmE pg X pg_tyl pg_cl (d + 1) 53 45 [.ref 24, .int x1, .int z5, .int y3] [] (cd f A2 R wr) _
      refine pe_goto (off := (-43)) (t := 2) (by decide +kernel) (by decide) rfl ?_
      exact ih A2 z5 (.int y3) hIy4 (fun k n25 => ((hFA2 k n25)).trans ((hF k n25))) (by omega) (by omega)
set_option maxRecDepth 100000 in
set_option maxHeartbeats 8000000 in
theorem CM_53 {X : pm_X} {d : Nat} {wr : pm_W} {f : Nat → Int32} {A : Nat → List Int32} {R : Nat → Value} {x1 : Int32} (hX : XO X) (hI : CI f A R) : pmE pg X pg_tyl pg_cl (d + 1) 53 0 (pm_ent (pm_max pg 53) [.ref 24, .int x1]) [] (cd f A R wr) (fun q => ∃ (A' : Nat → List Int32), q = (none, cd f A' R wr, 0, 0) ∧ CI f A' R ∧ (∀ k : Nat, k ≠ 25 → A' k = A k) ∧ ((True))) := by
  show pmE pg X pg_tyl pg_cl (d + 1) 53 0 [.ref 24, .int x1, pm_dead, pm_dead] [] (cd f A R wr) _
  refine pe_iconstv (n := 0) (v := 0) (by decide +kernel) (by decide +kernel) ?_
  refine pe_istore_n (j := 2) (ls' := [.ref 24, .int x1, .int 0, pm_dead]) (by decide +kernel) (Nat.le_of_ble_eq_true rfl) rfl ?_
  refine CL_53_2 hX (fun A1 y2 u3 hIy4 hFA1 gy2 => ?_) 10 A 0 (pm_dead) hI (fun k _ => rfl) (by decide +kernel) (by decide +kernel)
  exact pe_vret (by decide +kernel) rfl ⟨A1, rfl, hIy4, (fun k n25 => (hFA1 k n25)), trivial⟩
set_option maxRecDepth 100000 in
set_option maxHeartbeats 8000000 in
theorem CM_49 {X : pm_X} {d : Nat} {wr : pm_W} {f : Nat → Int32} {A : Nat → List Int32} {R : Nat → Value} {x2 : Int32} (hX : XO X) (hI : CI f A R) : pmE pg X pg_tyl pg_cl (d + 2) 49 0 (pm_ent (pm_max pg 49) [.ref 23, .int 0, .int x2]) [] (cd f A R wr) (fun q => ∃ (f' : Nat → Int32) (A' : Nat → List Int32), q = (none, cd f' A' R wr, 0, 0) ∧ CI f' A' R ∧ (∀ k : Nat, k ≠ 464 → f' k = f k) ∧ (∀ k : Nat, k ≠ 30 → A' k = A k) ∧ ((True))) := by
  show pmE pg X pg_tyl pg_cl (d + 2) 49 0 [.ref 23, .int 0, .int x2] [] (cd f A R wr) _
  refine pe_iload_n (j := 1) (by decide +kernel) rfl ?_
  refine pi_S (j := 101) (mj := 45) (by decide +kernel) (by decide +kernel) rfl ?_
  show pmE pg X pg_tyl pg_cl (d + 1) 45 0 [.int 0] [] (cd f A R wr) _
  refine pe_iload_n (j := 0) (by decide +kernel) rfl ?_
  refine pe_iconstv (n := 5) (v := 5) (by decide +kernel) (by decide +kernel) ?_
  refine pz_icmp_gt (off := 7) (t := 9) (by decide +kernel) (by decide) rfl kz_0 kz_5 (fun h1 => by omega) (fun h1 => ?_)
  refine pe_iconstv (n := 1) (v := 1) (by decide +kernel) (by decide +kernel) ?_
  refine pe_goto (off := 4) (t := 10) (by decide +kernel) (by decide) rfl ?_
  refine pe_iret (by decide +kernel) rfl rfl ⟨rfl, rfl, ?_⟩
  show pmE pg X pg_tyl pg_cl (d + 2) 49 4 [.ref 23, .int 0, .int x2] [.int 1] (cd f A R wr) _
  refine pz_if_eq (off := 17) (t := 21) (by decide +kernel) (by decide) rfl kz_1 (fun h2 => by omega) (fun h2 => ?_)
  refine pe_aload_n (j := 0) (by decide +kernel) rfl ?_
  refine pe_get (j := 21) (ci := 4) (n := 1) (by decide +kernel) (by decide +kernel) cd_o23 rfl ?_
  refine pe_iload_n (j := 1) (by decide +kernel) rfl ?_
  refine pe_aload_n (j := 0) (by decide +kernel) rfl ?_
  refine pe_get (j := 25) (ci := 4) (n := 2) (by decide +kernel) (by decide +kernel) cd_o23 rfl ?_
  refine pe_iload_n (j := 2) (by decide +kernel) rfl ?_
  refine pz_callV (j := 117) (mj := 50) (by decide +kernel) (cll_V (args := [.int x2, .ref 31, .int 0]) (n := 3) (by decide +kernel) rfl rfl cd_o29 (by decide +kernel) (Nat.le_of_ble_eq_true rfl) (Nat.le_of_ble_eq_true rfl)) (CM_50 hX hI) (fun q3a q3b q3c q3d hqq3 => ?_)
  obtain ⟨f4, A5, eq3, hIq3, hGq3, hFq3, kq3⟩ := hqq3
  cases eq3
  refine ⟨rfl, rfl, ?_⟩
  show pmE pg X pg_tyl pg_cl (d + 2) 49 20 [.ref 23, .int 0, .int x2] [] (cd f4 A5 R wr) _
  exact pe_vret (by decide +kernel) rfl ⟨f4, A5, rfl, hIq3, (fun k n464 => (hGq3 k n464)), (fun k n30 => (hFq3 k n30)), trivial⟩
set_option maxRecDepth 100000 in
set_option maxHeartbeats 8000000 in
theorem CM_49_1 {X : pm_X} {d : Nat} {wr : pm_W} {f : Nat → Int32} {A : Nat → List Int32} {R : Nat → Value} {x2 : Int32} (hX : XO X) (hI : CI f A R) : pmE pg X pg_tyl pg_cl (d + 2) 49 0 (pm_ent (pm_max pg 49) [.ref 23, .int 1, .int x2]) [] (cd f A R wr) (fun q => ∃ (f' : Nat → Int32) (A' : Nat → List Int32), q = (none, cd f' A' R wr, 0, 0) ∧ CI f' A' R ∧ (∀ k : Nat, k ≠ 464 → f' k = f k) ∧ (∀ k : Nat, k ≠ 30 → A' k = A k) ∧ ((True))) := by
  show pmE pg X pg_tyl pg_cl (d + 2) 49 0 [.ref 23, .int 1, .int x2] [] (cd f A R wr) _
  refine pe_iload_n (j := 1) (by decide +kernel) rfl ?_
  refine pi_S (j := 101) (mj := 45) (by decide +kernel) (by decide +kernel) rfl ?_
  show pmE pg X pg_tyl pg_cl (d + 1) 45 0 [.int 1] [] (cd f A R wr) _
  refine pe_iload_n (j := 0) (by decide +kernel) rfl ?_
  refine pe_iconstv (n := 5) (v := 5) (by decide +kernel) (by decide +kernel) ?_
  refine pz_icmp_gt (off := 7) (t := 9) (by decide +kernel) (by decide) rfl kz_1 kz_5 (fun h1 => by omega) (fun h1 => ?_)
  refine pe_iconstv (n := 1) (v := 1) (by decide +kernel) (by decide +kernel) ?_
  refine pe_goto (off := 4) (t := 10) (by decide +kernel) (by decide) rfl ?_
  refine pe_iret (by decide +kernel) rfl rfl ⟨rfl, rfl, ?_⟩
  show pmE pg X pg_tyl pg_cl (d + 2) 49 4 [.ref 23, .int 1, .int x2] [.int 1] (cd f A R wr) _
  refine pz_if_eq (off := 17) (t := 21) (by decide +kernel) (by decide) rfl kz_1 (fun h2 => by omega) (fun h2 => ?_)
  refine pe_aload_n (j := 0) (by decide +kernel) rfl ?_
  refine pe_get (j := 21) (ci := 4) (n := 1) (by decide +kernel) (by decide +kernel) cd_o23 rfl ?_
  refine pe_iload_n (j := 1) (by decide +kernel) rfl ?_
  refine pe_aload_n (j := 0) (by decide +kernel) rfl ?_
  refine pe_get (j := 25) (ci := 4) (n := 2) (by decide +kernel) (by decide +kernel) cd_o23 rfl ?_
  refine pe_iload_n (j := 2) (by decide +kernel) rfl ?_
  refine pz_callV (j := 117) (mj := 50) (by decide +kernel) (cll_V (args := [.int x2, .ref 31, .int 1]) (n := 3) (by decide +kernel) rfl rfl cd_o29 (by decide +kernel) (Nat.le_of_ble_eq_true rfl) (Nat.le_of_ble_eq_true rfl)) (CM_50 hX hI) (fun q3a q3b q3c q3d hqq3 => ?_)
  obtain ⟨f4, A5, eq3, hIq3, hGq3, hFq3, kq3⟩ := hqq3
  cases eq3
  refine ⟨rfl, rfl, ?_⟩
  show pmE pg X pg_tyl pg_cl (d + 2) 49 20 [.ref 23, .int 1, .int x2] [] (cd f4 A5 R wr) _
  exact pe_vret (by decide +kernel) rfl ⟨f4, A5, rfl, hIq3, (fun k n464 => (hGq3 k n464)), (fun k n30 => (hFq3 k n30)), trivial⟩
set_option maxRecDepth 100000 in
set_option maxHeartbeats 8000000 in
theorem CM_49_2 {X : pm_X} {d : Nat} {wr : pm_W} {f : Nat → Int32} {A : Nat → List Int32} {R : Nat → Value} {x2 : Int32} (hX : XO X) (hI : CI f A R) : pmE pg X pg_tyl pg_cl (d + 2) 49 0 (pm_ent (pm_max pg 49) [.ref 23, .int 2, .int x2]) [] (cd f A R wr) (fun q => ∃ (f' : Nat → Int32) (A' : Nat → List Int32), q = (none, cd f' A' R wr, 0, 0) ∧ CI f' A' R ∧ (∀ k : Nat, k ≠ 464 → f' k = f k) ∧ (∀ k : Nat, k ≠ 30 → A' k = A k) ∧ ((True))) := by
  show pmE pg X pg_tyl pg_cl (d + 2) 49 0 [.ref 23, .int 2, .int x2] [] (cd f A R wr) _
  refine pe_iload_n (j := 1) (by decide +kernel) rfl ?_
  refine pi_S (j := 101) (mj := 45) (by decide +kernel) (by decide +kernel) rfl ?_
  show pmE pg X pg_tyl pg_cl (d + 1) 45 0 [.int 2] [] (cd f A R wr) _
  refine pe_iload_n (j := 0) (by decide +kernel) rfl ?_
  refine pe_iconstv (n := 5) (v := 5) (by decide +kernel) (by decide +kernel) ?_
  refine pz_icmp_gt (off := 7) (t := 9) (by decide +kernel) (by decide) rfl kz_2 kz_5 (fun h1 => by omega) (fun h1 => ?_)
  refine pe_iconstv (n := 1) (v := 1) (by decide +kernel) (by decide +kernel) ?_
  refine pe_goto (off := 4) (t := 10) (by decide +kernel) (by decide) rfl ?_
  refine pe_iret (by decide +kernel) rfl rfl ⟨rfl, rfl, ?_⟩
  show pmE pg X pg_tyl pg_cl (d + 2) 49 4 [.ref 23, .int 2, .int x2] [.int 1] (cd f A R wr) _
  refine pz_if_eq (off := 17) (t := 21) (by decide +kernel) (by decide) rfl kz_1 (fun h2 => by omega) (fun h2 => ?_)
  refine pe_aload_n (j := 0) (by decide +kernel) rfl ?_
  refine pe_get (j := 21) (ci := 4) (n := 1) (by decide +kernel) (by decide +kernel) cd_o23 rfl ?_
  refine pe_iload_n (j := 1) (by decide +kernel) rfl ?_
  refine pe_aload_n (j := 0) (by decide +kernel) rfl ?_
  refine pe_get (j := 25) (ci := 4) (n := 2) (by decide +kernel) (by decide +kernel) cd_o23 rfl ?_
  refine pe_iload_n (j := 2) (by decide +kernel) rfl ?_
  refine pz_callV (j := 117) (mj := 50) (by decide +kernel) (cll_V (args := [.int x2, .ref 31, .int 2]) (n := 3) (by decide +kernel) rfl rfl cd_o29 (by decide +kernel) (Nat.le_of_ble_eq_true rfl) (Nat.le_of_ble_eq_true rfl)) (CM_50 hX hI) (fun q3a q3b q3c q3d hqq3 => ?_)
  obtain ⟨f4, A5, eq3, hIq3, hGq3, hFq3, kq3⟩ := hqq3
  cases eq3
  refine ⟨rfl, rfl, ?_⟩
  show pmE pg X pg_tyl pg_cl (d + 2) 49 20 [.ref 23, .int 2, .int x2] [] (cd f4 A5 R wr) _
  exact pe_vret (by decide +kernel) rfl ⟨f4, A5, rfl, hIq3, (fun k n464 => (hGq3 k n464)), (fun k n30 => (hFq3 k n30)), trivial⟩
set_option maxRecDepth 100000 in
set_option maxHeartbeats 8000000 in
theorem CM_49_3 {X : pm_X} {d : Nat} {wr : pm_W} {f : Nat → Int32} {A : Nat → List Int32} {R : Nat → Value} {x2 : Int32} (hX : XO X) (hI : CI f A R) : pmE pg X pg_tyl pg_cl (d + 2) 49 0 (pm_ent (pm_max pg 49) [.ref 23, .int 3, .int x2]) [] (cd f A R wr) (fun q => ∃ (f' : Nat → Int32) (A' : Nat → List Int32), q = (none, cd f' A' R wr, 0, 0) ∧ CI f' A' R ∧ (∀ k : Nat, k ≠ 464 → f' k = f k) ∧ (∀ k : Nat, k ≠ 30 → A' k = A k) ∧ ((True))) := by
  show pmE pg X pg_tyl pg_cl (d + 2) 49 0 [.ref 23, .int 3, .int x2] [] (cd f A R wr) _
  refine pe_iload_n (j := 1) (by decide +kernel) rfl ?_
  refine pi_S (j := 101) (mj := 45) (by decide +kernel) (by decide +kernel) rfl ?_
  show pmE pg X pg_tyl pg_cl (d + 1) 45 0 [.int 3] [] (cd f A R wr) _
  refine pe_iload_n (j := 0) (by decide +kernel) rfl ?_
  refine pe_iconstv (n := 5) (v := 5) (by decide +kernel) (by decide +kernel) ?_
  refine pz_icmp_gt (off := 7) (t := 9) (by decide +kernel) (by decide) rfl kz_3 kz_5 (fun h1 => by omega) (fun h1 => ?_)
  refine pe_iconstv (n := 1) (v := 1) (by decide +kernel) (by decide +kernel) ?_
  refine pe_goto (off := 4) (t := 10) (by decide +kernel) (by decide) rfl ?_
  refine pe_iret (by decide +kernel) rfl rfl ⟨rfl, rfl, ?_⟩
  show pmE pg X pg_tyl pg_cl (d + 2) 49 4 [.ref 23, .int 3, .int x2] [.int 1] (cd f A R wr) _
  refine pz_if_eq (off := 17) (t := 21) (by decide +kernel) (by decide) rfl kz_1 (fun h2 => by omega) (fun h2 => ?_)
  refine pe_aload_n (j := 0) (by decide +kernel) rfl ?_
  refine pe_get (j := 21) (ci := 4) (n := 1) (by decide +kernel) (by decide +kernel) cd_o23 rfl ?_
  refine pe_iload_n (j := 1) (by decide +kernel) rfl ?_
  refine pe_aload_n (j := 0) (by decide +kernel) rfl ?_
  refine pe_get (j := 25) (ci := 4) (n := 2) (by decide +kernel) (by decide +kernel) cd_o23 rfl ?_
  refine pe_iload_n (j := 2) (by decide +kernel) rfl ?_
  refine pz_callV (j := 117) (mj := 50) (by decide +kernel) (cll_V (args := [.int x2, .ref 31, .int 3]) (n := 3) (by decide +kernel) rfl rfl cd_o29 (by decide +kernel) (Nat.le_of_ble_eq_true rfl) (Nat.le_of_ble_eq_true rfl)) (CM_50 hX hI) (fun q3a q3b q3c q3d hqq3 => ?_)
  obtain ⟨f4, A5, eq3, hIq3, hGq3, hFq3, kq3⟩ := hqq3
  cases eq3
  refine ⟨rfl, rfl, ?_⟩
  show pmE pg X pg_tyl pg_cl (d + 2) 49 20 [.ref 23, .int 3, .int x2] [] (cd f4 A5 R wr) _
  exact pe_vret (by decide +kernel) rfl ⟨f4, A5, rfl, hIq3, (fun k n464 => (hGq3 k n464)), (fun k n30 => (hFq3 k n30)), trivial⟩
set_option maxRecDepth 100000 in
set_option maxHeartbeats 8000000 in
theorem CM_49_4 {X : pm_X} {d : Nat} {wr : pm_W} {f : Nat → Int32} {A : Nat → List Int32} {R : Nat → Value} {x2 : Int32} (hX : XO X) (hI : CI f A R) : pmE pg X pg_tyl pg_cl (d + 2) 49 0 (pm_ent (pm_max pg 49) [.ref 23, .int 4, .int x2]) [] (cd f A R wr) (fun q => ∃ (f' : Nat → Int32) (A' : Nat → List Int32), q = (none, cd f' A' R wr, 0, 0) ∧ CI f' A' R ∧ (∀ k : Nat, k ≠ 464 → f' k = f k) ∧ (∀ k : Nat, k ≠ 30 → A' k = A k) ∧ ((True))) := by
  show pmE pg X pg_tyl pg_cl (d + 2) 49 0 [.ref 23, .int 4, .int x2] [] (cd f A R wr) _
  refine pe_iload_n (j := 1) (by decide +kernel) rfl ?_
  refine pi_S (j := 101) (mj := 45) (by decide +kernel) (by decide +kernel) rfl ?_
  show pmE pg X pg_tyl pg_cl (d + 1) 45 0 [.int 4] [] (cd f A R wr) _
  refine pe_iload_n (j := 0) (by decide +kernel) rfl ?_
  refine pe_iconstv (n := 5) (v := 5) (by decide +kernel) (by decide +kernel) ?_
  refine pz_icmp_gt (off := 7) (t := 9) (by decide +kernel) (by decide) rfl kz_4 kz_5 (fun h1 => by omega) (fun h1 => ?_)
  refine pe_iconstv (n := 1) (v := 1) (by decide +kernel) (by decide +kernel) ?_
  refine pe_goto (off := 4) (t := 10) (by decide +kernel) (by decide) rfl ?_
  refine pe_iret (by decide +kernel) rfl rfl ⟨rfl, rfl, ?_⟩
  show pmE pg X pg_tyl pg_cl (d + 2) 49 4 [.ref 23, .int 4, .int x2] [.int 1] (cd f A R wr) _
  refine pz_if_eq (off := 17) (t := 21) (by decide +kernel) (by decide) rfl kz_1 (fun h2 => by omega) (fun h2 => ?_)
  refine pe_aload_n (j := 0) (by decide +kernel) rfl ?_
  refine pe_get (j := 21) (ci := 4) (n := 1) (by decide +kernel) (by decide +kernel) cd_o23 rfl ?_
  refine pe_iload_n (j := 1) (by decide +kernel) rfl ?_
  refine pe_aload_n (j := 0) (by decide +kernel) rfl ?_
  refine pe_get (j := 25) (ci := 4) (n := 2) (by decide +kernel) (by decide +kernel) cd_o23 rfl ?_
  refine pe_iload_n (j := 2) (by decide +kernel) rfl ?_
  refine pz_callV (j := 117) (mj := 50) (by decide +kernel) (cll_V (args := [.int x2, .ref 31, .int 4]) (n := 3) (by decide +kernel) rfl rfl cd_o29 (by decide +kernel) (Nat.le_of_ble_eq_true rfl) (Nat.le_of_ble_eq_true rfl)) (CM_50 hX hI) (fun q3a q3b q3c q3d hqq3 => ?_)
  obtain ⟨f4, A5, eq3, hIq3, hGq3, hFq3, kq3⟩ := hqq3
  cases eq3
  refine ⟨rfl, rfl, ?_⟩
  show pmE pg X pg_tyl pg_cl (d + 2) 49 20 [.ref 23, .int 4, .int x2] [] (cd f4 A5 R wr) _
  exact pe_vret (by decide +kernel) rfl ⟨f4, A5, rfl, hIq3, (fun k n464 => (hGq3 k n464)), (fun k n30 => (hFq3 k n30)), trivial⟩
set_option maxRecDepth 100000 in
set_option maxHeartbeats 8000000 in
theorem CM_49_5 {X : pm_X} {d : Nat} {wr : pm_W} {f : Nat → Int32} {A : Nat → List Int32} {R : Nat → Value} {x2 : Int32} (hX : XO X) (hI : CI f A R) : pmE pg X pg_tyl pg_cl (d + 2) 49 0 (pm_ent (pm_max pg 49) [.ref 23, .int 5, .int x2]) [] (cd f A R wr) (fun q => ∃ (f' : Nat → Int32) (A' : Nat → List Int32), q = (none, cd f' A' R wr, 0, 0) ∧ CI f' A' R ∧ (∀ k : Nat, k ≠ 464 → f' k = f k) ∧ (∀ k : Nat, k ≠ 30 → A' k = A k) ∧ ((True))) := by
  show pmE pg X pg_tyl pg_cl (d + 2) 49 0 [.ref 23, .int 5, .int x2] [] (cd f A R wr) _
  refine pe_iload_n (j := 1) (by decide +kernel) rfl ?_
  refine pi_S (j := 101) (mj := 45) (by decide +kernel) (by decide +kernel) rfl ?_
  show pmE pg X pg_tyl pg_cl (d + 1) 45 0 [.int 5] [] (cd f A R wr) _
  refine pe_iload_n (j := 0) (by decide +kernel) rfl ?_
  refine pe_iconstv (n := 5) (v := 5) (by decide +kernel) (by decide +kernel) ?_
  refine pz_icmp_gt (off := 7) (t := 9) (by decide +kernel) (by decide) rfl kz_5 kz_5 (fun h1 => by omega) (fun h1 => ?_)
  refine pe_iconstv (n := 1) (v := 1) (by decide +kernel) (by decide +kernel) ?_
  refine pe_goto (off := 4) (t := 10) (by decide +kernel) (by decide) rfl ?_
  refine pe_iret (by decide +kernel) rfl rfl ⟨rfl, rfl, ?_⟩
  show pmE pg X pg_tyl pg_cl (d + 2) 49 4 [.ref 23, .int 5, .int x2] [.int 1] (cd f A R wr) _
  refine pz_if_eq (off := 17) (t := 21) (by decide +kernel) (by decide) rfl kz_1 (fun h2 => by omega) (fun h2 => ?_)
  refine pe_aload_n (j := 0) (by decide +kernel) rfl ?_
  refine pe_get (j := 21) (ci := 4) (n := 1) (by decide +kernel) (by decide +kernel) cd_o23 rfl ?_
  refine pe_iload_n (j := 1) (by decide +kernel) rfl ?_
  refine pe_aload_n (j := 0) (by decide +kernel) rfl ?_
  refine pe_get (j := 25) (ci := 4) (n := 2) (by decide +kernel) (by decide +kernel) cd_o23 rfl ?_
  refine pe_iload_n (j := 2) (by decide +kernel) rfl ?_
  refine pz_callV (j := 117) (mj := 50) (by decide +kernel) (cll_V (args := [.int x2, .ref 31, .int 5]) (n := 3) (by decide +kernel) rfl rfl cd_o29 (by decide +kernel) (Nat.le_of_ble_eq_true rfl) (Nat.le_of_ble_eq_true rfl)) (CM_50 hX hI) (fun q3a q3b q3c q3d hqq3 => ?_)
  obtain ⟨f4, A5, eq3, hIq3, hGq3, hFq3, kq3⟩ := hqq3
  cases eq3
  refine ⟨rfl, rfl, ?_⟩
  show pmE pg X pg_tyl pg_cl (d + 2) 49 20 [.ref 23, .int 5, .int x2] [] (cd f4 A5 R wr) _
  exact pe_vret (by decide +kernel) rfl ⟨f4, A5, rfl, hIq3, (fun k n464 => (hGq3 k n464)), (fun k n30 => (hFq3 k n30)), trivial⟩
set_option maxRecDepth 100000 in
set_option maxHeartbeats 8000000 in
theorem CM_49_6 {X : pm_X} {d : Nat} {wr : pm_W} {f : Nat → Int32} {A : Nat → List Int32} {R : Nat → Value} {x2 : Int32} (hX : XO X) (hI : CI f A R) (hxp0 : ((-1) * ((A 31).getD 0 0).toInt) ≤ 0) (hxp1 : (((A 31).getD 0 0).toInt + (-9)) ≤ 0) : pmE pg X pg_tyl pg_cl (d + 2) 49 0 (pm_ent (pm_max pg 49) [.ref 23, .int 6, .int x2]) [] (cd f A R wr) (fun q => ∃ (f' : Nat → Int32), q = (none, cd f' A R wr, 0, 0) ∧ CI f' A R ∧ (∀ k : Nat, k ≠ 384 → f' k = f k) ∧ ((True))) := by
  show pmE pg X pg_tyl pg_cl (d + 2) 49 0 [.ref 23, .int 6, .int x2] [] (cd f A R wr) _
  refine pe_iload_n (j := 1) (by decide +kernel) rfl ?_
  refine pi_S (j := 101) (mj := 45) (by decide +kernel) (by decide +kernel) rfl ?_
  show pmE pg X pg_tyl pg_cl (d + 1) 45 0 [.int 6] [] (cd f A R wr) _
  refine pe_iload_n (j := 0) (by decide +kernel) rfl ?_
  refine pe_iconstv (n := 5) (v := 5) (by decide +kernel) (by decide +kernel) ?_
  refine pz_icmp_gt (off := 7) (t := 9) (by decide +kernel) (by decide) rfl kz_6 kz_5 (fun h1 => ?_) (fun h1 => by omega)
  refine pe_iconstv (n := 0) (v := 0) (by decide +kernel) (by decide +kernel) ?_
  refine pe_iret (by decide +kernel) rfl rfl ⟨rfl, rfl, ?_⟩
  show pmE pg X pg_tyl pg_cl (d + 2) 49 4 [.ref 23, .int 6, .int x2] [.int 0] (cd f A R wr) _
  refine pz_if_eq (off := 17) (t := 21) (by decide +kernel) (by decide) rfl kz_0 (fun h2 => ?_) (fun h2 => by omega)
  refine pe_iload_n (j := 1) (by decide +kernel) rfl ?_
  refine pe_tableIn (df := 224) (lo := 6) (hi := 11) (off := 38) (offs := #[38, 54, 112, 128, 168, 208]) (t := 60) (by decide +kernel) (by decide +kernel) (by decide +kernel) (by decide) rfl ?_
  refine pe_aload_n (j := 0) (by decide +kernel) rfl ?_
  refine pe_get (j := 12) (ci := 4) (n := 0) (by decide +kernel) (by decide +kernel) cd_o23 rfl ?_
  refine pe_aload_n (j := 0) (by decide +kernel) rfl ?_
  refine pe_get (j := 25) (ci := 4) (n := 2) (by decide +kernel) (by decide +kernel) cd_o23 rfl ?_
  refine pe_iconstv (n := 0) (v := 0) (by decide +kernel) (by decide +kernel) ?_
  refine pz_iald (by decide +kernel) cd_a31 (cl_31 hI) kz_0 (by omega) (by omega) (fun v3 ev3 => ?_)
  have hvv3 : v3.toInt = ((A 31).getD 0 0).toInt := (congrArg Int32.toInt (ev3.trans (show (A 31).getD 0 0 = ((A 31).getD 0 0) from rfl))).trans rfl
  refine cz_put384 (jj := 72) (by decide +kernel) (by decide +kernel) hI (by omega) (by omega) (fun f4 ef4 hIf4 => ?_)
  refine pe_goto (off := 210) (t := 283) (by decide +kernel) (by decide) rfl ?_
  exact pe_vret (by decide +kernel) rfl ⟨f4, rfl, hIf4, (fun k n384 => upf_fr ef4 n384), trivial⟩
set_option maxRecDepth 100000 in
set_option maxHeartbeats 8000000 in
theorem CM_49_7 {X : pm_X} {d : Nat} {wr : pm_W} {f : Nat → Int32} {A : Nat → List Int32} {R : Nat → Value} {x2 : Int32} (hX : XO X) (hI : CI f A R) (hxp0 : ((-1) * ((A 31).getD 0 0).toInt) ≤ 0) (hxp1 : (((A 31).getD 0 0).toInt + (-8)) ≤ 0) (hxp2 : ((-1) * ((A 31).getD 1 0).toInt) ≤ 0) (hxp3 : (((A 31).getD 1 0).toInt + (-8)) ≤ 0) : pmE pg X pg_tyl pg_cl (d + 2) 49 0 (pm_ent (pm_max pg 49) [.ref 23, .int 7, .int x2]) [] (cd f A R wr) (fun q => ∃ (f' : Nat → Int32) (A' : Nat → List Int32), q = (none, cd f' A' R wr, 0, 0) ∧ CI f' A' R ∧ (∀ k : Nat, k ≠ 377 → f' k = f k) ∧ (∀ k : Nat, k ≠ 25 → A' k = A k) ∧ ((True))) := by
  show pmE pg X pg_tyl pg_cl (d + 2) 49 0 [.ref 23, .int 7, .int x2] [] (cd f A R wr) _
  refine pe_iload_n (j := 1) (by decide +kernel) rfl ?_
  refine pi_S (j := 101) (mj := 45) (by decide +kernel) (by decide +kernel) rfl ?_
  show pmE pg X pg_tyl pg_cl (d + 1) 45 0 [.int 7] [] (cd f A R wr) _
  refine pe_iload_n (j := 0) (by decide +kernel) rfl ?_
  refine pe_iconstv (n := 5) (v := 5) (by decide +kernel) (by decide +kernel) ?_
  refine pz_icmp_gt (off := 7) (t := 9) (by decide +kernel) (by decide) rfl kz_7 kz_5 (fun h1 => ?_) (fun h1 => by omega)
  refine pe_iconstv (n := 0) (v := 0) (by decide +kernel) (by decide +kernel) ?_
  refine pe_iret (by decide +kernel) rfl rfl ⟨rfl, rfl, ?_⟩
  show pmE pg X pg_tyl pg_cl (d + 2) 49 4 [.ref 23, .int 7, .int x2] [.int 0] (cd f A R wr) _
  refine pz_if_eq (off := 17) (t := 21) (by decide +kernel) (by decide) rfl kz_0 (fun h2 => ?_) (fun h2 => by omega)
  refine pe_iload_n (j := 1) (by decide +kernel) rfl ?_
  refine pe_tableIn (df := 224) (lo := 6) (hi := 11) (off := 54) (offs := #[38, 54, 112, 128, 168, 208]) (t := 76) (by decide +kernel) (by decide +kernel) (by decide +kernel) (by decide) rfl ?_
  refine pe_aload_n (j := 0) (by decide +kernel) rfl ?_
  refine pe_aload_n (j := 0) (by decide +kernel) rfl ?_
  refine pe_get (j := 50) (ci := 4) (n := 9) (by decide +kernel) (by decide +kernel) cd_o23 rfl ?_
  refine pe_aload_n (j := 0) (by decide +kernel) rfl ?_
  refine pe_get (j := 25) (ci := 4) (n := 2) (by decide +kernel) (by decide +kernel) cd_o23 rfl ?_
  refine pe_iconstv (n := 0) (v := 0) (by decide +kernel) (by decide +kernel) ?_
  refine pz_iald (by decide +kernel) cd_a31 (cl_31 hI) kz_0 (by omega) (by omega) (fun v3 ev3 => ?_)
  have hvv3 : v3.toInt = ((A 31).getD 0 0).toInt := (congrArg Int32.toInt (ev3.trans (show (A 31).getD 0 0 = ((A 31).getD 0 0) from rfl))).trans rfl
  refine pe_aload_n (j := 0) (by decide +kernel) rfl ?_
  refine pe_get (j := 25) (ci := 4) (n := 2) (by decide +kernel) (by decide +kernel) cd_o23 rfl ?_
  refine pe_iconstv (n := 1) (v := 1) (by decide +kernel) (by decide +kernel) ?_
  refine pz_iald (by decide +kernel) cd_a31 (cl_31 hI) kz_1 (by omega) (by omega) (fun v4 ev4 => ?_)
  have hvv4 : v4.toInt = ((A 31).getD 1 0).toInt := (congrArg Int32.toInt (ev4.trans (show (A 31).getD 1 0 = ((A 31).getD 1 0) from rfl))).trans rfl
  refine pz_max (j := 121) (c := 8) (by decide +kernel) (by decide +kernel) (Nat.le_of_ble_eq_true rfl) rfl rfl (by omega) (by omega) (fun z5 hz5 => ?_)
  have lw7 := zi_lo (f 377)
  have uw7 := zi_hi (f 377)
  refine pz_max (j := 121) (c := 2147483647) (by decide +kernel) (by decide +kernel) (Nat.le_of_ble_eq_true rfl) rfl rfl (by omega) (by omega) (fun z6 hz6 => ?_)
  refine cz_put377 (jj := 50) (by decide +kernel) (by decide +kernel) hI (fun f8 ef8 hIf8 => ?_)
  refine pe_aload_n (j := 0) (by decide +kernel) rfl ?_
  refine pe_get (j := 12) (ci := 4) (n := 0) (by decide +kernel) (by decide +kernel) cd_o23 rfl ?_
  refine pe_get (j := 124) (ci := 9) (n := 3) (by decide +kernel) (by decide +kernel) cd_o24 rfl ?_
  refine pe_aload_n (j := 0) (by decide +kernel) rfl ?_
  refine pe_get (j := 25) (ci := 4) (n := 2) (by decide +kernel) (by decide +kernel) cd_o23 rfl ?_
  refine pe_iconstv (n := 0) (v := 0) (by decide +kernel) (by decide +kernel) ?_
  refine pz_iald (by decide +kernel) cd_a31 (cl_31 hIf8) kz_0 (by omega) (by omega) (fun v9 ev9 => ?_)
  rw [ev9.trans ev3.symm]
  clear ev9 v9
  refine pe_aload_n (j := 0) (by decide +kernel) rfl ?_
  refine pe_get (j := 25) (ci := 4) (n := 2) (by decide +kernel) (by decide +kernel) cd_o23 rfl ?_
  refine pe_iconstv (n := 1) (v := 1) (by decide +kernel) (by decide +kernel) ?_
  refine pz_iald (by decide +kernel) cd_a31 (cl_31 hIf8) kz_1 (by omega) (by omega) (fun v10 ev10 => ?_)
  rw [ev10.trans ev4.symm]
  clear ev10 v10
  refine pi_S (j := 127) (mj := 52) (by decide +kernel) (by decide +kernel) rfl ?_
  show pmE pg X pg_tyl pg_cl (d + 1) 52 0 [.int v3, .int v4] [] (cd f8 A R wr) _
  refine pe_iload_n (j := 0) (by decide +kernel) rfl ?_
  refine pe_bipushv (n := 9) (v := 9) (by decide +kernel) (by decide +kernel) ?_
  refine pz_mul (by decide +kernel) rfl kz_9 (by omega) (by omega) (fun z11 hz11 => ?_)
  refine pe_iload_n (j := 1) (by decide +kernel) rfl ?_
  refine pz_add (by decide +kernel) hz11 rfl (by omega) (by omega) (fun z12 hz12 => ?_)
  clear hz11
  refine pe_iret (by decide +kernel) rfl rfl ⟨rfl, rfl, ?_⟩
  show pmE pg X pg_tyl pg_cl (d + 2) 49 124 [.ref 23, .int 7, .int x2] [.int z12, .ref 25] (cd f8 A R wr) _
  refine pe_aload_n (j := 0) (by decide +kernel) rfl ?_
  refine pe_get (j := 25) (ci := 4) (n := 2) (by decide +kernel) (by decide +kernel) cd_o23 rfl ?_
  refine pe_iconstv (n := 2) (v := 2) (by decide +kernel) (by decide +kernel) ?_
  refine pz_iald (by decide +kernel) cd_a31 (cl_31 hIf8) kz_2 (by omega) (by omega) (fun v13 ev13 => ?_)
  have hvv13 : v13.toInt = ((A 31).getD 2 0).toInt := (congrArg Int32.toInt (ev13.trans (show (A 31).getD 2 0 = ((A 31).getD 2 0) from rfl))).trans rfl
  refine cz_st25 (by decide +kernel) hIf8 hz12 (by omega) (by omega) (fun A14 eA14 hIA14 => ?_)
  refine pe_goto (off := 152) (t := 283) (by decide +kernel) (by decide) rfl ?_
  exact pe_vret (by decide +kernel) rfl ⟨f8, A14, rfl, hIA14, (fun k n377 => upf_fr ef8 n377), (fun k n25 => upa_fr eA14 n25), trivial⟩
set_option maxRecDepth 100000 in
set_option maxHeartbeats 8000000 in
theorem CM_49_8 {X : pm_X} {d : Nat} {wr : pm_W} {f : Nat → Int32} {A : Nat → List Int32} {R : Nat → Value} {x2 : Int32} (hX : XO X) (hI : CI f A R) : pmE pg X pg_tyl pg_cl (d + 2) 49 0 (pm_ent (pm_max pg 49) [.ref 23, .int 8, .int x2]) [] (cd f A R wr) (fun q => ∃ (A' : Nat → List Int32), q = (none, cd f A' R wr, 0, 0) ∧ CI f A' R ∧ (∀ k : Nat, k ≠ 25 → A' k = A k) ∧ ((True))) := by
  show pmE pg X pg_tyl pg_cl (d + 2) 49 0 [.ref 23, .int 8, .int x2] [] (cd f A R wr) _
  refine pe_iload_n (j := 1) (by decide +kernel) rfl ?_
  refine pi_S (j := 101) (mj := 45) (by decide +kernel) (by decide +kernel) rfl ?_
  show pmE pg X pg_tyl pg_cl (d + 1) 45 0 [.int 8] [] (cd f A R wr) _
  refine pe_iload_n (j := 0) (by decide +kernel) rfl ?_
  refine pe_iconstv (n := 5) (v := 5) (by decide +kernel) (by decide +kernel) ?_
  refine pz_icmp_gt (off := 7) (t := 9) (by decide +kernel) (by decide) rfl kz_8 kz_5 (fun h1 => ?_) (fun h1 => by omega)
  refine pe_iconstv (n := 0) (v := 0) (by decide +kernel) (by decide +kernel) ?_
  refine pe_iret (by decide +kernel) rfl rfl ⟨rfl, rfl, ?_⟩
  show pmE pg X pg_tyl pg_cl (d + 2) 49 4 [.ref 23, .int 8, .int x2] [.int 0] (cd f A R wr) _
  refine pz_if_eq (off := 17) (t := 21) (by decide +kernel) (by decide) rfl kz_0 (fun h2 => ?_) (fun h2 => by omega)
  refine pe_iload_n (j := 1) (by decide +kernel) rfl ?_
  refine pe_tableIn (df := 224) (lo := 6) (hi := 11) (off := 112) (offs := #[38, 54, 112, 128, 168, 208]) (t := 134) (by decide +kernel) (by decide +kernel) (by decide +kernel) (by decide) rfl ?_
  refine pe_aload_n (j := 0) (by decide +kernel) rfl ?_
  refine pe_get (j := 12) (ci := 4) (n := 0) (by decide +kernel) (by decide +kernel) cd_o23 rfl ?_
  refine pe_aload_n (j := 0) (by decide +kernel) rfl ?_
  refine pe_get (j := 25) (ci := 4) (n := 2) (by decide +kernel) (by decide +kernel) cd_o23 rfl ?_
  refine pe_iconstv (n := 0) (v := 0) (by decide +kernel) (by decide +kernel) ?_
  refine pz_iald (by decide +kernel) cd_a31 (cl_31 hI) kz_0 (by omega) (by omega) (fun v3 ev3 => ?_)
  have hvv3 : v3.toInt = ((A 31).getD 0 0).toInt := (congrArg Int32.toInt (ev3.trans (show (A 31).getD 0 0 = ((A 31).getD 0 0) from rfl))).trans rfl
  refine pz_callV (j := 130) (mj := 53) (by decide +kernel) (cll_V (args := [.int v3]) (n := 1) (by decide +kernel) rfl rfl cd_o24 (by decide +kernel) (Nat.le_of_ble_eq_true rfl) (Nat.le_of_ble_eq_true rfl)) (CM_53 hX hI) (fun q4a q4b q4c q4d hqq4 => ?_)
  obtain ⟨A5, eq4, hIq4, hFq4, kq4⟩ := hqq4
  cases eq4
  refine ⟨rfl, rfl, ?_⟩
  show pmE pg X pg_tyl pg_cl (d + 2) 49 147 [.ref 23, .int 8, .int x2] [] (cd f A5 R wr) _
  refine pe_goto (off := 136) (t := 283) (by decide +kernel) (by decide) rfl ?_
  exact pe_vret (by decide +kernel) rfl ⟨A5, rfl, hIq4, (fun k n25 => (hFq4 k n25)), trivial⟩
set_option maxRecDepth 100000 in
set_option maxHeartbeats 8000000 in
theorem CM_49_9 {X : pm_X} {d : Nat} {wr : pm_W} {f : Nat → Int32} {A : Nat → List Int32} {R : Nat → Value} {x2 : Int32} (hX : XO X) (hI : CI f A R) (hxp0 : ((-1) * ((A 31).getD 0 0).toInt) ≤ 0) (hxp1 : (((A 31).getD 0 0).toInt + (-8)) ≤ 0) : pmE pg X pg_tyl pg_cl (d + 2) 49 0 (pm_ent (pm_max pg 49) [.ref 23, .int 9, .int x2]) [] (cd f A R wr) (fun q => ∃ (f' : Nat → Int32) (A' : Nat → List Int32), q = (none, cd f' A' R wr, 0, 0) ∧ CI f' A' R ∧ (∀ k : Nat, k ≠ 377 → f' k = f k) ∧ (∀ k : Nat, k ≠ 26 → A' k = A k) ∧ ((True))) := by
  show pmE pg X pg_tyl pg_cl (d + 2) 49 0 [.ref 23, .int 9, .int x2] [] (cd f A R wr) _
  refine pe_iload_n (j := 1) (by decide +kernel) rfl ?_
  refine pi_S (j := 101) (mj := 45) (by decide +kernel) (by decide +kernel) rfl ?_
  show pmE pg X pg_tyl pg_cl (d + 1) 45 0 [.int 9] [] (cd f A R wr) _
  refine pe_iload_n (j := 0) (by decide +kernel) rfl ?_
  refine pe_iconstv (n := 5) (v := 5) (by decide +kernel) (by decide +kernel) ?_
  refine pz_icmp_gt (off := 7) (t := 9) (by decide +kernel) (by decide) rfl kz_9 kz_5 (fun h1 => ?_) (fun h1 => by omega)
  refine pe_iconstv (n := 0) (v := 0) (by decide +kernel) (by decide +kernel) ?_
  refine pe_iret (by decide +kernel) rfl rfl ⟨rfl, rfl, ?_⟩
  show pmE pg X pg_tyl pg_cl (d + 2) 49 4 [.ref 23, .int 9, .int x2] [.int 0] (cd f A R wr) _
  refine pz_if_eq (off := 17) (t := 21) (by decide +kernel) (by decide) rfl kz_0 (fun h2 => ?_) (fun h2 => by omega)
  refine pe_iload_n (j := 1) (by decide +kernel) rfl ?_
  refine pe_tableIn (df := 224) (lo := 6) (hi := 11) (off := 128) (offs := #[38, 54, 112, 128, 168, 208]) (t := 150) (by decide +kernel) (by decide +kernel) (by decide +kernel) (by decide) rfl ?_
  refine pe_aload_n (j := 0) (by decide +kernel) rfl ?_
  refine pe_aload_n (j := 0) (by decide +kernel) rfl ?_
  refine pe_get (j := 50) (ci := 4) (n := 9) (by decide +kernel) (by decide +kernel) cd_o23 rfl ?_
  refine pe_aload_n (j := 0) (by decide +kernel) rfl ?_
  refine pe_get (j := 25) (ci := 4) (n := 2) (by decide +kernel) (by decide +kernel) cd_o23 rfl ?_
  refine pe_iconstv (n := 0) (v := 0) (by decide +kernel) (by decide +kernel) ?_
  refine pz_iald (by decide +kernel) cd_a31 (cl_31 hI) kz_0 (by omega) (by omega) (fun v3 ev3 => ?_)
  have hvv3 : v3.toInt = ((A 31).getD 0 0).toInt := (congrArg Int32.toInt (ev3.trans (show (A 31).getD 0 0 = ((A 31).getD 0 0) from rfl))).trans rfl
  have lw5 := zi_lo (f 377)
  have uw5 := zi_hi (f 377)
  refine pz_max (j := 121) (c := 2147483647) (by decide +kernel) (by decide +kernel) (Nat.le_of_ble_eq_true rfl) rfl rfl (by omega) (by omega) (fun z4 hz4 => ?_)
  refine cz_put377 (jj := 50) (by decide +kernel) (by decide +kernel) hI (fun f6 ef6 hIf6 => ?_)
  refine pe_aload_n (j := 0) (by decide +kernel) rfl ?_
  refine pe_get (j := 12) (ci := 4) (n := 0) (by decide +kernel) (by decide +kernel) cd_o23 rfl ?_
  refine pe_get (j := 134) (ci := 9) (n := 4) (by decide +kernel) (by decide +kernel) cd_o24 rfl ?_
  refine pe_aload_n (j := 0) (by decide +kernel) rfl ?_
  refine pe_get (j := 25) (ci := 4) (n := 2) (by decide +kernel) (by decide +kernel) cd_o23 rfl ?_
  refine pe_iconstv (n := 0) (v := 0) (by decide +kernel) (by decide +kernel) ?_
  refine pz_iald (by decide +kernel) cd_a31 (cl_31 hIf6) kz_0 (by omega) (by omega) (fun v7 ev7 => ?_)
  rw [ev7.trans ev3.symm]
  clear ev7 v7
  refine pe_aload_n (j := 0) (by decide +kernel) rfl ?_
  refine pe_get (j := 25) (ci := 4) (n := 2) (by decide +kernel) (by decide +kernel) cd_o23 rfl ?_
  refine pe_iconstv (n := 1) (v := 1) (by decide +kernel) (by decide +kernel) ?_
  refine pz_iald (by decide +kernel) cd_a31 (cl_31 hIf6) kz_1 (by omega) (by omega) (fun v8 ev8 => ?_)
  have hvv8 : v8.toInt = ((A 31).getD 1 0).toInt := (congrArg Int32.toInt (ev8.trans (show (A 31).getD 1 0 = ((A 31).getD 1 0) from rfl))).trans rfl
  refine cz_st26 (by decide +kernel) hIf6 rfl (by omega) (by omega) (fun A9 eA9 hIA9 => ?_)
  refine pe_goto (off := 96) (t := 283) (by decide +kernel) (by decide) rfl ?_
  exact pe_vret (by decide +kernel) rfl ⟨f6, A9, rfl, hIA9, (fun k n377 => upf_fr ef6 n377), (fun k n26 => upa_fr eA9 n26), trivial⟩
set_option maxRecDepth 100000 in
set_option maxHeartbeats 8000000 in
theorem CM_49_10 {X : pm_X} {d : Nat} {wr : pm_W} {f : Nat → Int32} {A : Nat → List Int32} {R : Nat → Value} {x2 : Int32} (hX : XO X) (hI : CI f A R) (hxp0 : ((-1) * ((A 31).getD 0 0).toInt) ≤ 0) (hxp1 : (((A 31).getD 0 0).toInt + (-8)) ≤ 0) : pmE pg X pg_tyl pg_cl (d + 2) 49 0 (pm_ent (pm_max pg 49) [.ref 23, .int 10, .int x2]) [] (cd f A R wr) (fun q => ∃ (f' : Nat → Int32) (A' : Nat → List Int32), q = (none, cd f' A' R wr, 0, 0) ∧ CI f' A' R ∧ (∀ k : Nat, k ≠ 377 → f' k = f k) ∧ (∀ k : Nat, k ≠ 27 → A' k = A k) ∧ ((True))) := by
  show pmE pg X pg_tyl pg_cl (d + 2) 49 0 [.ref 23, .int 10, .int x2] [] (cd f A R wr) _
  refine pe_iload_n (j := 1) (by decide +kernel) rfl ?_
  refine pi_S (j := 101) (mj := 45) (by decide +kernel) (by decide +kernel) rfl ?_
  show pmE pg X pg_tyl pg_cl (d + 1) 45 0 [.int 10] [] (cd f A R wr) _
  refine pe_iload_n (j := 0) (by decide +kernel) rfl ?_
  refine pe_iconstv (n := 5) (v := 5) (by decide +kernel) (by decide +kernel) ?_
  refine pz_icmp_gt (off := 7) (t := 9) (by decide +kernel) (by decide) rfl kz_10 kz_5 (fun h1 => ?_) (fun h1 => by omega)
  refine pe_iconstv (n := 0) (v := 0) (by decide +kernel) (by decide +kernel) ?_
  refine pe_iret (by decide +kernel) rfl rfl ⟨rfl, rfl, ?_⟩
  show pmE pg X pg_tyl pg_cl (d + 2) 49 4 [.ref 23, .int 10, .int x2] [.int 0] (cd f A R wr) _
  refine pz_if_eq (off := 17) (t := 21) (by decide +kernel) (by decide) rfl kz_0 (fun h2 => ?_) (fun h2 => by omega)
  refine pe_iload_n (j := 1) (by decide +kernel) rfl ?_
  refine pe_tableIn (df := 224) (lo := 6) (hi := 11) (off := 168) (offs := #[38, 54, 112, 128, 168, 208]) (t := 190) (by decide +kernel) (by decide +kernel) (by decide +kernel) (by decide) rfl ?_
  refine pe_aload_n (j := 0) (by decide +kernel) rfl ?_
  refine pe_aload_n (j := 0) (by decide +kernel) rfl ?_
  refine pe_get (j := 50) (ci := 4) (n := 9) (by decide +kernel) (by decide +kernel) cd_o23 rfl ?_
  refine pe_aload_n (j := 0) (by decide +kernel) rfl ?_
  refine pe_get (j := 25) (ci := 4) (n := 2) (by decide +kernel) (by decide +kernel) cd_o23 rfl ?_
  refine pe_iconstv (n := 0) (v := 0) (by decide +kernel) (by decide +kernel) ?_
  refine pz_iald (by decide +kernel) cd_a31 (cl_31 hI) kz_0 (by omega) (by omega) (fun v3 ev3 => ?_)
  have hvv3 : v3.toInt = ((A 31).getD 0 0).toInt := (congrArg Int32.toInt (ev3.trans (show (A 31).getD 0 0 = ((A 31).getD 0 0) from rfl))).trans rfl
  have lw5 := zi_lo (f 377)
  have uw5 := zi_hi (f 377)
  refine pz_max (j := 121) (c := 2147483647) (by decide +kernel) (by decide +kernel) (Nat.le_of_ble_eq_true rfl) rfl rfl (by omega) (by omega) (fun z4 hz4 => ?_)
  refine cz_put377 (jj := 50) (by decide +kernel) (by decide +kernel) hI (fun f6 ef6 hIf6 => ?_)
  refine pe_aload_n (j := 0) (by decide +kernel) rfl ?_
  refine pe_get (j := 12) (ci := 4) (n := 0) (by decide +kernel) (by decide +kernel) cd_o23 rfl ?_
  refine pe_get (j := 137) (ci := 9) (n := 5) (by decide +kernel) (by decide +kernel) cd_o24 rfl ?_
  refine pe_aload_n (j := 0) (by decide +kernel) rfl ?_
  refine pe_get (j := 25) (ci := 4) (n := 2) (by decide +kernel) (by decide +kernel) cd_o23 rfl ?_
  refine pe_iconstv (n := 0) (v := 0) (by decide +kernel) (by decide +kernel) ?_
  refine pz_iald (by decide +kernel) cd_a31 (cl_31 hIf6) kz_0 (by omega) (by omega) (fun v7 ev7 => ?_)
  rw [ev7.trans ev3.symm]
  clear ev7 v7
  refine pe_aload_n (j := 0) (by decide +kernel) rfl ?_
  refine pe_get (j := 25) (ci := 4) (n := 2) (by decide +kernel) (by decide +kernel) cd_o23 rfl ?_
  refine pe_iconstv (n := 1) (v := 1) (by decide +kernel) (by decide +kernel) ?_
  refine pz_iald (by decide +kernel) cd_a31 (cl_31 hIf6) kz_1 (by omega) (by omega) (fun v8 ev8 => ?_)
  have hvv8 : v8.toInt = ((A 31).getD 1 0).toInt := (congrArg Int32.toInt (ev8.trans (show (A 31).getD 1 0 = ((A 31).getD 1 0) from rfl))).trans rfl
  refine cz_st27 (by decide +kernel) hIf6 rfl (by omega) (by omega) (fun A9 eA9 hIA9 => ?_)
  refine pe_goto (off := 56) (t := 283) (by decide +kernel) (by decide) rfl ?_
  exact pe_vret (by decide +kernel) rfl ⟨f6, A9, rfl, hIA9, (fun k n377 => upf_fr ef6 n377), (fun k n27 => upa_fr eA9 n27), trivial⟩
set_option maxRecDepth 100000 in
set_option maxHeartbeats 8000000 in
theorem CM_49_11 {X : pm_X} {d : Nat} {wr : pm_W} {f : Nat → Int32} {A : Nat → List Int32} {R : Nat → Value} {x2 : Int32} (hX : XO X) (hI : CI f A R) : pmE pg X pg_tyl pg_cl (d + 2) 49 0 (pm_ent (pm_max pg 49) [.ref 23, .int 11, .int x2]) [] (cd f A R wr) (fun q => ∃ (f' : Nat → Int32), q = (none, cd f' A R wr, 0, 0) ∧ CI f' A R ∧ (∀ k : Nat, k ≠ 385 → f' k = f k) ∧ ((True))) := by
  show pmE pg X pg_tyl pg_cl (d + 2) 49 0 [.ref 23, .int 11, .int x2] [] (cd f A R wr) _
  refine pe_iload_n (j := 1) (by decide +kernel) rfl ?_
  refine pi_S (j := 101) (mj := 45) (by decide +kernel) (by decide +kernel) rfl ?_
  show pmE pg X pg_tyl pg_cl (d + 1) 45 0 [.int 11] [] (cd f A R wr) _
  refine pe_iload_n (j := 0) (by decide +kernel) rfl ?_
  refine pe_iconstv (n := 5) (v := 5) (by decide +kernel) (by decide +kernel) ?_
  refine pz_icmp_gt (off := 7) (t := 9) (by decide +kernel) (by decide) rfl kz_11 kz_5 (fun h1 => ?_) (fun h1 => by omega)
  refine pe_iconstv (n := 0) (v := 0) (by decide +kernel) (by decide +kernel) ?_
  refine pe_iret (by decide +kernel) rfl rfl ⟨rfl, rfl, ?_⟩
  show pmE pg X pg_tyl pg_cl (d + 2) 49 4 [.ref 23, .int 11, .int x2] [.int 0] (cd f A R wr) _
  refine pz_if_eq (off := 17) (t := 21) (by decide +kernel) (by decide) rfl kz_0 (fun h2 => ?_) (fun h2 => by omega)
  refine pe_iload_n (j := 1) (by decide +kernel) rfl ?_
  refine pe_tableIn (df := 224) (lo := 6) (hi := 11) (off := 208) (offs := #[38, 54, 112, 128, 168, 208]) (t := 230) (by decide +kernel) (by decide +kernel) (by decide +kernel) (by decide) rfl ?_
  refine pe_aload_n (j := 0) (by decide +kernel) rfl ?_
  refine pe_get (j := 12) (ci := 4) (n := 0) (by decide +kernel) (by decide +kernel) cd_o23 rfl ?_
  refine pe_aload_n (j := 0) (by decide +kernel) rfl ?_
  refine pe_get (j := 25) (ci := 4) (n := 2) (by decide +kernel) (by decide +kernel) cd_o23 rfl ?_
  refine pe_iconstv (n := 0) (v := 0) (by decide +kernel) (by decide +kernel) ?_
  refine pz_iald (by decide +kernel) cd_a31 (cl_31 hI) kz_0 (by omega) (by omega) (fun v3 ev3 => ?_)
  have hvv3 : v3.toInt = ((A 31).getD 0 0).toInt := (congrArg Int32.toInt (ev3.trans (show (A 31).getD 0 0 = ((A 31).getD 0 0) from rfl))).trans rfl
  refine cz_put385 (jj := 140) (by decide +kernel) (by decide +kernel) hI (fun f4 ef4 hIf4 => ?_)
  refine pe_goto (off := 40) (t := 283) (by decide +kernel) (by decide) rfl ?_
  exact pe_vret (by decide +kernel) rfl ⟨f4, rfl, hIf4, (fun k n385 => upf_fr ef4 n385), trivial⟩
set_option maxRecDepth 100000 in
set_option maxHeartbeats 8000000 in
theorem CM_49_12 {X : pm_X} {d : Nat} {wr : pm_W} {f : Nat → Int32} {A : Nat → List Int32} {R : Nat → Value} {x2 : Int32} (hX : XO X) (hI : CI f A R) (hxp0 : ((-1) * ((A 31).getD 0 0).toInt) ≤ 0) (hxp1 : (((A 31).getD 0 0).toInt + (-8)) ≤ 0) (hxp2 : ((-1) * ((A 31).getD 1 0).toInt) ≤ 0) (hxp3 : (((A 31).getD 1 0).toInt + (-8)) ≤ 0) : pmE pg X pg_tyl pg_cl (d + 2) 49 0 (pm_ent (pm_max pg 49) [.ref 23, .int 12, .int x2]) [] (cd f A R wr) (fun q => ∃ (f' : Nat → Int32) (A' : Nat → List Int32), q = (none, cd f' A' R wr, 0, 0) ∧ CI f' A' R ∧ (∀ k : Nat, k ≠ 377 → k ≠ 386 → f' k = f k) ∧ (∀ k : Nat, k ≠ 28 → A' k = A k) ∧ ((True))) := by
  show pmE pg X pg_tyl pg_cl (d + 2) 49 0 [.ref 23, .int 12, .int x2] [] (cd f A R wr) _
  refine pe_iload_n (j := 1) (by decide +kernel) rfl ?_
  refine pi_S (j := 101) (mj := 45) (by decide +kernel) (by decide +kernel) rfl ?_
  show pmE pg X pg_tyl pg_cl (d + 1) 45 0 [.int 12] [] (cd f A R wr) _
  refine pe_iload_n (j := 0) (by decide +kernel) rfl ?_
  refine pe_iconstv (n := 5) (v := 5) (by decide +kernel) (by decide +kernel) ?_
  refine pz_icmp_gt (off := 7) (t := 9) (by decide +kernel) (by decide) rfl kz_12 kz_5 (fun h1 => ?_) (fun h1 => by omega)
  refine pe_iconstv (n := 0) (v := 0) (by decide +kernel) (by decide +kernel) ?_
  refine pe_iret (by decide +kernel) rfl rfl ⟨rfl, rfl, ?_⟩
  show pmE pg X pg_tyl pg_cl (d + 2) 49 4 [.ref 23, .int 12, .int x2] [.int 0] (cd f A R wr) _
  refine pz_if_eq (off := 17) (t := 21) (by decide +kernel) (by decide) rfl kz_0 (fun h2 => ?_) (fun h2 => by omega)
  refine pe_iload_n (j := 1) (by decide +kernel) rfl ?_
  refine pe_tableOut (df := 224) (lo := 6) (hi := 11) (offs := #[38, 54, 112, 128, 168, 208]) (t := 246) (by decide +kernel) (by decide +kernel) (by decide) rfl ?_
  refine pe_aload_n (j := 0) (by decide +kernel) rfl ?_
  refine pe_aload_n (j := 0) (by decide +kernel) rfl ?_
  refine pe_get (j := 50) (ci := 4) (n := 9) (by decide +kernel) (by decide +kernel) cd_o23 rfl ?_
  refine pe_aload_n (j := 0) (by decide +kernel) rfl ?_
  refine pe_get (j := 25) (ci := 4) (n := 2) (by decide +kernel) (by decide +kernel) cd_o23 rfl ?_
  refine pe_iconstv (n := 0) (v := 0) (by decide +kernel) (by decide +kernel) ?_
  refine pz_iald (by decide +kernel) cd_a31 (cl_31 hI) kz_0 (by omega) (by omega) (fun v3 ev3 => ?_)
  have hvv3 : v3.toInt = ((A 31).getD 0 0).toInt := (congrArg Int32.toInt (ev3.trans (show (A 31).getD 0 0 = ((A 31).getD 0 0) from rfl))).trans rfl
  refine pe_aload_n (j := 0) (by decide +kernel) rfl ?_
  refine pe_get (j := 25) (ci := 4) (n := 2) (by decide +kernel) (by decide +kernel) cd_o23 rfl ?_
  refine pe_iconstv (n := 1) (v := 1) (by decide +kernel) (by decide +kernel) ?_
  refine pz_iald (by decide +kernel) cd_a31 (cl_31 hI) kz_1 (by omega) (by omega) (fun v4 ev4 => ?_)
  have hvv4 : v4.toInt = ((A 31).getD 1 0).toInt := (congrArg Int32.toInt (ev4.trans (show (A 31).getD 1 0 = ((A 31).getD 1 0) from rfl))).trans rfl
  refine pz_max (j := 121) (c := 8) (by decide +kernel) (by decide +kernel) (Nat.le_of_ble_eq_true rfl) rfl rfl (by omega) (by omega) (fun z5 hz5 => ?_)
  have lw7 := zi_lo (f 377)
  have uw7 := zi_hi (f 377)
  refine pz_max (j := 121) (c := 2147483647) (by decide +kernel) (by decide +kernel) (Nat.le_of_ble_eq_true rfl) rfl rfl (by omega) (by omega) (fun z6 hz6 => ?_)
  refine cz_put377 (jj := 50) (by decide +kernel) (by decide +kernel) hI (fun f8 ef8 hIf8 => ?_)
  refine pe_aload_n (j := 0) (by decide +kernel) rfl ?_
  refine pe_get (j := 12) (ci := 4) (n := 0) (by decide +kernel) (by decide +kernel) cd_o23 rfl ?_
  refine pe_aload_n (j := 0) (by decide +kernel) rfl ?_
  refine pe_get (j := 25) (ci := 4) (n := 2) (by decide +kernel) (by decide +kernel) cd_o23 rfl ?_
  refine pi_V (j := 143) (mj := 54) (by decide +kernel) (cll_V (args := [.ref 31]) (n := 1) (by decide +kernel) rfl rfl cd_o24 (by decide +kernel) (Nat.le_of_ble_eq_true rfl) (Nat.le_of_ble_eq_true rfl)) ?_
  show pmE pg X pg_tyl pg_cl (d + 1) 54 0 [.ref 24, .ref 31] [] (cd f8 A R wr) _
  refine pe_aload_n (j := 0) (by decide +kernel) rfl ?_
  refine pe_get (j := 31) (ci := 9) (n := 2) (by decide +kernel) (by decide +kernel) cd_o24 rfl ?_
  have hr_f_386 := cf_386 hI
  refine pe_top (v := (f 386)) (upf_fr ef8 (by decide)) ?_
  refine pe_bipushv (n := 7) (v := 7) (by decide +kernel) (by decide +kernel) ?_
  refine pz_icmp_ge (off := 29) (t := 35) (by decide +kernel) (by decide) rfl rfl kz_7 (fun h9 => ?_) (fun h9 => ?_)
  · skip
    refine pe_vret (by decide +kernel) rfl ⟨rfl, rfl, ?_⟩
    show pmE pg X pg_tyl pg_cl (d + 2) 49 283 [.ref 23, .int 12, .int x2] [] (cd f8 A R wr) _
    exact pe_vret (by decide +kernel) rfl ⟨f8, A, rfl, hIf8, (fun k n377 n386 => upf_fr ef8 n377), (fun k n28 => rfl), trivial⟩
  · skip
    refine pe_aload_n (j := 1) (by decide +kernel) rfl ?_
    refine pe_iconstv (n := 0) (v := 0) (by decide +kernel) (by decide +kernel) ?_
    refine pe_aload_n (j := 0) (by decide +kernel) rfl ?_
    refine pe_get (j := 25) (ci := 9) (n := 6) (by decide +kernel) (by decide +kernel) cd_o24 rfl ?_
    refine pe_aload_n (j := 0) (by decide +kernel) rfl ?_
    refine pe_get (j := 31) (ci := 9) (n := 2) (by decide +kernel) (by decide +kernel) cd_o24 rfl ?_
    refine pe_top (v := (f 386)) (upf_fr ef8 (by decide)) ?_
    refine pe_iconstv (n := 4) (v := 4) (by decide +kernel) (by decide +kernel) ?_
    refine pz_mul (by decide +kernel) rfl kz_4 (by omega) (by omega) (fun z10 hz10 => ?_)
    refine pe_iconstv (n := 4) (v := 4) (by decide +kernel) (by decide +kernel) ?_
    have hl11 := kz_4
    have hl12 := kz_0
    refine cz_copy (j := 40) (a := 0) (b := ((f 386).toInt * 4)) (c := 4) (by decide +kernel) (by decide +kernel) (Nat.le_of_ble_eq_true rfl) cd_a31 cd_a28 (by decide +kernel) (fun _ => cd_s28) hIf8 (cl_31 hIf8) (cl_28 hIf8) kz_0 hz10 kz_4 (by omega) (by omega) (by omega) (by omega) (by omega) (Or.inl rfl) (ct_one (kd := 0) (P := fun kd => ∀ i, i < (4 : Int).toNat → CT kd ((((f 386).toInt * 4) : Int).toNat + i) ((A 31).getD ((0 : Int).toNat + i) 0).toInt) (by decide +kernel) (want_ct (by omega) (by omega) (by omega))) (fun A13 eA13 hIA13 => ?_)
    refine pe_aload_n (j := 0) (by decide +kernel) rfl ?_
    refine pe_dup (by decide +kernel) rfl ?_
    refine pe_get (j := 31) (ci := 9) (n := 2) (by decide +kernel) (by decide +kernel) cd_o24 rfl ?_
    refine pe_top (v := (f 386)) (upf_fr ef8 (by decide)) ?_
    refine pe_iconstv (n := 1) (v := 1) (by decide +kernel) (by decide +kernel) ?_
    refine pz_add (by decide +kernel) rfl kz_1 (by omega) (by omega) (fun z14 hz14 => ?_)
    refine cz_put386 (jj := 31) (by decide +kernel) (by decide +kernel) hIA13 (by omega) (by omega) (fun f15 ef15 hIf15 => ?_)
    refine pe_vret (by decide +kernel) rfl ⟨rfl, rfl, ?_⟩
    show pmE pg X pg_tyl pg_cl (d + 2) 49 283 [.ref 23, .int 12, .int x2] [] (cd f15 A13 R wr) _
    exact pe_vret (by decide +kernel) rfl ⟨f15, A13, rfl, hIf15, (fun k n377 n386 => (upf_fr ef15 n386).trans (upf_fr ef8 n377)), (fun k n28 => upa_fr eA13 n28), trivial⟩
set_option maxRecDepth 100000 in
set_option maxHeartbeats 8000000 in
theorem CL_29_39 {X : pm_X} {d : Nat} {wr : pm_W} {Q : pm_R → Prop} {f0 : Nat → Int32} {A0 : Nat → List Int32} {R : Nat → Value} {x2 : Int32} (hX : XO X) (hR4 : R 4 = .ref 4) (gx2 : (0 ≤ x2.toInt ∧ x2.toInt ≤ 12)) (k_107_0 : ∀ (f' : Nat → Int32) (A' : Nat → List Int32) (y3 : Int32) (y4 : Int32), CI f' A' R → (∀ k : Nat, k ≠ 373 → k ≠ 374 → k ≠ 375 → k ≠ 376 → k ≠ 378 → k ≠ 379 → f' k = f0 k) → (∀ k : Nat, k ≠ 31 → A' k = A0 k) → (0 ≤ y3.toInt ∧ y3.toInt ≤ 600) → (0 ≤ y4.toInt ∧ y4.toInt ≤ 600) → (y3.toInt + (-1) * y4.toInt) ≤ 0 → NB (f' 378).toInt x2.toInt y3.toInt (A' 31) → pmE pg X pg_tyl pg_cl (d + 7) 29 107 [.ref 23, .int 0, .int x2, .int y3, .int y4] [] (cd f' A' R wr) Q) (kr_0 : ∀ (f' : Nat → Int32) (A' : Nat → List Int32), CI f' A' R → (∀ k : Nat, k ≠ 373 → k ≠ 374 → k ≠ 375 → k ≠ 376 → k ≠ 378 → k ≠ 379 → f' k = f0 k) → (∀ k : Nat, k ≠ 31 → A' k = A0 k) → Q (some (.int 0), cd f' A' R wr, 0, 0)) : ∀ (m : Nat) (f : Nat → Int32) (A : Nat → List Int32) (x3 : Int32) (x4 : Int32), CI f A R → (∀ k : Nat, k ≠ 373 → k ≠ 374 → k ≠ 375 → k ≠ 376 → k ≠ 378 → k ≠ 379 → f k = f0 k) → (∀ k : Nat, k ≠ 31 → A k = A0 k) → (0 ≤ x3.toInt ∧ x3.toInt ≤ 600) → (0 ≤ x4.toInt ∧ x4.toInt ≤ 600) → (x3.toInt + (-1) * x4.toInt) ≤ 0 → NB (f 378).toInt x2.toInt x3.toInt (A 31) → 600 - x3.toInt < (m : Int) → pmE pg X pg_tyl pg_cl (d + 7) 29 39 [.ref 23, .int 0, .int x2, .int x3, .int x4] [] (cd f A R wr) Q := by
  intro m
  induction m with
  | zero =>
    intro f A x3 x4 hI hG hF gx3 gx4 hxi0 hpi0 hm
    exfalso
    have l0 := zi_lo x3
    have u0 := zi_hi x3
    omega
  | succ m ih =>
    intro f A x3 x4 hI hG hF gx3 gx4 hxi0 hpi0 hm
    refine pe_iload (j := 4) (by decide +kernel) rfl ?_
    refine pe_aload_n (j := 0) (by decide +kernel) rfl ?_
    refine pe_get (j := 43) (ci := 4) (n := 4) (by decide +kernel) (by decide +kernel) cd_o23 rfl ?_
    have hr_f_372 := cf_372 hI
    refine pz_icmp_ge (off := 62) (t := 107) (by decide +kernel) (by decide) rfl rfl rfl (fun h1 => ?_) (fun h1 => ?_)
    · skip
      exact k_107_0 f A x3 x4 hI (fun k n373 n374 n375 n376 n378 n379 => (hG k n373 n374 n375 n376 n378 n379)) (fun k n31 => (hF k n31)) (by omega) (by omega) (by omega) hpi0
    · skip
      refine pe_aload_n (j := 0) (by decide +kernel) rfl ?_
      refine pe_get (j := 62) (ci := 4) (n := 6) (by decide +kernel) (by decide +kernel) cd_o23 rfl ?_
      have hr_f_374 := cf_374 hI
      refine pe_iconstv (n := 2) (v := 2) (by decide +kernel) (by decide +kernel) ?_
      refine pz_icmp_ne (off := 54) (t := 107) (by decide +kernel) (by decide) rfl rfl kz_2 (fun h2 => ?_) (fun h2 => ?_)
      · skip
        exact k_107_0 f A x3 x4 hI (fun k n373 n374 n375 n376 n378 n379 => (hG k n373 n374 n375 n376 n378 n379)) (fun k n31 => (hF k n31)) (by omega) (by omega) (by omega) hpi0
      · skip
        refine pe_iload_n (j := 3) (by decide +kernel) rfl ?_
        refine pe_getstatic (j := 86) (v := .retAddr 1) (by decide +kernel) (by decide +kernel) ?_
        refine pe_iload_n (j := 2) (by decide +kernel) rfl ?_
        refine pz_ialdX (n := 13) (by decide +kernel) (hX 1 (by decide +kernel)) rfl rfl (by omega) (by omega) (fun v3 ev3 => ?_)
        have rv3 : 0 ≤ v3.toInt ∧ v3.toInt ≤ 4 := by rw [ev3]; exact lt_all (by decide +kernel) (by decide) _
        refine pz_icmp_lt (off := 10) (t := 72) (by decide +kernel) (by decide) rfl rfl rfl (fun h4 => ?_) (fun h4 => ?_)
        · skip
          refine pe_aload_n (j := 0) (by decide +kernel) rfl ?_
          refine pe_iload_n (j := 2) (by decide +kernel) rfl ?_
          refine pe_iload_n (j := 3) (by decide +kernel) rfl ?_
          refine pz_callV (j := 89) (mj := 47) (by decide +kernel) (cll_V (args := [.int x3, .int x2]) (n := 2) (by decide +kernel) rfl rfl cd_o23 (by decide +kernel) (Nat.le_of_ble_eq_true rfl) (Nat.le_of_ble_eq_true rfl)) (CM_47 hX hI (by omega) (by omega)) (fun q5a q5b q5c q5d hqq5 => ?_)
          obtain ⟨f6, eq5, hIq5, hGq5, kq5⟩ := hqq5
          cases eq5
          refine ⟨rfl, rfl, ?_⟩
          obtain ⟨hp7, kq5⟩ := kq5
          show pmE pg X pg_tyl pg_cl (d + 7) 29 78 [.ref 23, .int 0, .int x2, .int x3, .int x4] [] (cd f6 A R wr) _
          refine pe_iload_n (j := 3) (by decide +kernel) rfl ?_
          refine pe_bipushv (n := 8) (v := 8) (by decide +kernel) (by decide +kernel) ?_
          refine pz_icmp_ge (off := 13) (t := 94) (by decide +kernel) (by decide) rfl rfl kz_8 (fun h8 => by omega) (fun h8 => ?_)
          refine pe_aload_n (j := 0) (by decide +kernel) rfl ?_
          refine pe_get (j := 25) (ci := 4) (n := 2) (by decide +kernel) (by decide +kernel) cd_o23 rfl ?_
          refine pe_iload_n (j := 3) (by decide +kernel) rfl ?_
          refine pe_aload_n (j := 0) (by decide +kernel) rfl ?_
          refine pe_get (j := 92) (ci := 4) (n := 8) (by decide +kernel) (by decide +kernel) cd_o23 rfl ?_
          refine pe_top (v := (f 376)) ((hGq5 376 (by decide) (by decide))) ?_
          refine cz_st31 (by decide +kernel) hIq5 rfl (by omega) (by omega) (fun A9 eA9 hIA9 => ?_)
          refine pz_iinc (j := 3) (n := 1) (by decide +kernel) rfl rfl (by decide +kernel) (by omega) (by omega) (fun z10 hz10 => ?_)
          show pmE pg X pg_tyl pg_cl (d + 7) 29 97 [.ref 23, .int 0, .int x2, .int z10, .int x4] [] (cd f6 A9 R wr) _
          refine pe_aload_n (j := 0) (by decide +kernel) rfl ?_
          refine pz_callV (j := 59) (mj := 23) (by decide +kernel) (cll_V (args := []) (n := 0) (by decide +kernel) rfl rfl cd_o23 (by decide +kernel) (Nat.le_of_ble_eq_true rfl) (Nat.le_of_ble_eq_true rfl)) (CM_23 hX hIA9 (hR4)) (fun q11a q11b q11c q11d hqq11 => ?_)
          obtain ⟨f12, eq11, hIq11, hGq11, kq11⟩ := hqq11
          cases eq11
          refine ⟨rfl, rfl, ?_⟩
          show pmE pg X pg_tyl pg_cl (d + 7) 29 101 [.ref 23, .int 0, .int x2, .int z10, .int x4] [] (cd f12 A9 R wr) _
          refine pz_iinc (j := 4) (n := 1) (by decide +kernel) rfl rfl (by decide +kernel) (by omega) (by omega) (fun z13 hz13 => ?_)
          show pmE pg X pg_tyl pg_cl (d + 7) 29 104 [.ref 23, .int 0, .int x2, .int z10, .int z13] [] (cd f12 A9 R wr) _
          refine pe_goto (off := (-65)) (t := 39) (by decide +kernel) (by decide) rfl ?_
          exact ih f12 A9 z10 z13 hIq11 (fun k n373 n374 n375 n376 n378 n379 => ((hGq11 k n373 n374 n375 n376)).trans (((hGq5 k n378 n379)).trans ((hG k n373 n374 n375 n376 n378 n379)))) (fun k n31 => (upa_fr eA9 n31).trans ((hF k n31))) (by omega) (by omega) (by omega) (by rw [show f12 378 = (f6 378) from (hGq11 378 (by decide) (by decide) (by decide) (by decide)), upa_at eA9, hz10]; exact NB_step hpi0 hp7 (by omega) (cl_31 hI) (by omega)) (by omega)
        · skip
          refine pe_iload_n (j := 2) (by decide +kernel) rfl ?_
          refine pe_iconstv (n := 2) (v := 2) (by decide +kernel) (by decide +kernel) ?_
          refine pz_icmp_eq (off := 5) (t := 72) (by decide +kernel) (by decide) rfl rfl kz_2 (fun h14 => ?_) (fun h14 => ?_)
          · skip
            refine pe_aload_n (j := 0) (by decide +kernel) rfl ?_
            refine pe_iload_n (j := 2) (by decide +kernel) rfl ?_
            refine pe_iload_n (j := 3) (by decide +kernel) rfl ?_
            refine pz_callV (j := 89) (mj := 47) (by decide +kernel) (cll_V (args := [.int x3, .int x2]) (n := 2) (by decide +kernel) rfl rfl cd_o23 (by decide +kernel) (Nat.le_of_ble_eq_true rfl) (Nat.le_of_ble_eq_true rfl)) (CM_47 hX hI (by omega) (by omega)) (fun q15a q15b q15c q15d hqq15 => ?_)
            obtain ⟨f16, eq15, hIq15, hGq15, kq15⟩ := hqq15
            cases eq15
            refine ⟨rfl, rfl, ?_⟩
            obtain ⟨hp17, kq15⟩ := kq15
            show pmE pg X pg_tyl pg_cl (d + 7) 29 78 [.ref 23, .int 0, .int x2, .int x3, .int x4] [] (cd f16 A R wr) _
            refine pe_iload_n (j := 3) (by decide +kernel) rfl ?_
            refine pe_bipushv (n := 8) (v := 8) (by decide +kernel) (by decide +kernel) ?_
            refine pz_icmp_ge (off := 13) (t := 94) (by decide +kernel) (by decide) rfl rfl kz_8 (fun h18 => ?_) (fun h18 => ?_)
            · skip
              refine pz_iinc (j := 3) (n := 1) (by decide +kernel) rfl rfl (by decide +kernel) (by omega) (by omega) (fun z19 hz19 => ?_)
              show pmE pg X pg_tyl pg_cl (d + 7) 29 97 [.ref 23, .int 0, .int x2, .int z19, .int x4] [] (cd f16 A R wr) _
              refine pe_aload_n (j := 0) (by decide +kernel) rfl ?_
              refine pz_callV (j := 59) (mj := 23) (by decide +kernel) (cll_V (args := []) (n := 0) (by decide +kernel) rfl rfl cd_o23 (by decide +kernel) (Nat.le_of_ble_eq_true rfl) (Nat.le_of_ble_eq_true rfl)) (CM_23 hX hIq15 (hR4)) (fun q20a q20b q20c q20d hqq20 => ?_)
              obtain ⟨f21, eq20, hIq20, hGq20, kq20⟩ := hqq20
              cases eq20
              refine ⟨rfl, rfl, ?_⟩
              show pmE pg X pg_tyl pg_cl (d + 7) 29 101 [.ref 23, .int 0, .int x2, .int z19, .int x4] [] (cd f21 A R wr) _
              refine pz_iinc (j := 4) (n := 1) (by decide +kernel) rfl rfl (by decide +kernel) (by omega) (by omega) (fun z22 hz22 => ?_)
              show pmE pg X pg_tyl pg_cl (d + 7) 29 104 [.ref 23, .int 0, .int x2, .int z19, .int z22] [] (cd f21 A R wr) _
              refine pe_goto (off := (-65)) (t := 39) (by decide +kernel) (by decide) rfl ?_
              exact ih f21 A z19 z22 hIq20 (fun k n373 n374 n375 n376 n378 n379 => ((hGq20 k n373 n374 n375 n376)).trans (((hGq15 k n378 n379)).trans ((hG k n373 n374 n375 n376 n378 n379)))) (fun k n31 => (hF k n31)) (by omega) (by omega) (by omega) (by rw [show f21 378 = (f16 378) from (hGq20 378 (by decide) (by decide) (by decide) (by decide)), hz19]; exact NB_keep hpi0 hp17 (by omega)) (by omega)
            · skip
              refine pe_aload_n (j := 0) (by decide +kernel) rfl ?_
              refine pe_get (j := 25) (ci := 4) (n := 2) (by decide +kernel) (by decide +kernel) cd_o23 rfl ?_
              refine pe_iload_n (j := 3) (by decide +kernel) rfl ?_
              refine pe_aload_n (j := 0) (by decide +kernel) rfl ?_
              refine pe_get (j := 92) (ci := 4) (n := 8) (by decide +kernel) (by decide +kernel) cd_o23 rfl ?_
              refine pe_top (v := (f 376)) ((hGq15 376 (by decide) (by decide))) ?_
              refine cz_st31 (by decide +kernel) hIq15 rfl (by omega) (by omega) (fun A23 eA23 hIA23 => ?_)
              refine pz_iinc (j := 3) (n := 1) (by decide +kernel) rfl rfl (by decide +kernel) (by omega) (by omega) (fun z24 hz24 => ?_)
              show pmE pg X pg_tyl pg_cl (d + 7) 29 97 [.ref 23, .int 0, .int x2, .int z24, .int x4] [] (cd f16 A23 R wr) _
              refine pe_aload_n (j := 0) (by decide +kernel) rfl ?_
              refine pz_callV (j := 59) (mj := 23) (by decide +kernel) (cll_V (args := []) (n := 0) (by decide +kernel) rfl rfl cd_o23 (by decide +kernel) (Nat.le_of_ble_eq_true rfl) (Nat.le_of_ble_eq_true rfl)) (CM_23 hX hIA23 (hR4)) (fun q25a q25b q25c q25d hqq25 => ?_)
              obtain ⟨f26, eq25, hIq25, hGq25, kq25⟩ := hqq25
              cases eq25
              refine ⟨rfl, rfl, ?_⟩
              show pmE pg X pg_tyl pg_cl (d + 7) 29 101 [.ref 23, .int 0, .int x2, .int z24, .int x4] [] (cd f26 A23 R wr) _
              refine pz_iinc (j := 4) (n := 1) (by decide +kernel) rfl rfl (by decide +kernel) (by omega) (by omega) (fun z27 hz27 => ?_)
              show pmE pg X pg_tyl pg_cl (d + 7) 29 104 [.ref 23, .int 0, .int x2, .int z24, .int z27] [] (cd f26 A23 R wr) _
              refine pe_goto (off := (-65)) (t := 39) (by decide +kernel) (by decide) rfl ?_
              exact ih f26 A23 z24 z27 hIq25 (fun k n373 n374 n375 n376 n378 n379 => ((hGq25 k n373 n374 n375 n376)).trans (((hGq15 k n378 n379)).trans ((hG k n373 n374 n375 n376 n378 n379)))) (fun k n31 => (upa_fr eA23 n31).trans ((hF k n31))) (by omega) (by omega) (by omega) (by rw [show f26 378 = (f16 378) from (hGq25 378 (by decide) (by decide) (by decide) (by decide)), upa_at eA23, hz24]; exact NB_step hpi0 hp17 (by omega) (cl_31 hI) (by omega)) (by omega)
          · skip
            refine pe_iconstv (n := 0) (v := 0) (by decide +kernel) (by decide +kernel) ?_
            exact pe_iret (by decide +kernel) rfl rfl (kr_0 f A hI (fun k n373 n374 n375 n376 n378 n379 => (hG k n373 n374 n375 n376 n378 n379)) (fun k n31 => (hF k n31)))
set_option maxRecDepth 100000 in
set_option maxHeartbeats 8000000 in
theorem CM_29 {X : pm_X} {d : Nat} {wr : pm_W} {f : Nat → Int32} {A : Nat → List Int32} {R : Nat → Value} (hX : XO X) (hI : CI f A R) (hR4 : R 4 = .ref 4) : pmE pg X pg_tyl pg_cl (d + 7) 29 0 (pm_ent (pm_max pg 29) [.ref 23, .int 0]) [] (cd f A R wr) (fun q => ∃ (f' : Nat → Int32) (A' : Nat → List Int32) (r : Int32), q = (some (.int r), cd f' A' R wr, 0, 0) ∧ CI f' A' R ∧ (∀ k : Nat, k ≠ 373 → k ≠ 374 → k ≠ 375 → k ≠ 376 → k ≠ 377 → k ≠ 378 → k ≠ 379 → k ≠ 384 → k ≠ 385 → k ≠ 386 → k ≠ 464 → f' k = f k) ∧ (∀ k : Nat, k ≠ 25 → k ≠ 26 → k ≠ 27 → k ≠ 28 → k ≠ 30 → k ≠ 31 → A' k = A k) ∧ ((r = 0 ∧ True) ∨ (r = 1 ∧ True))) := by
  show pmE pg X pg_tyl pg_cl (d + 7) 29 0 [.ref 23, .int 0, pm_dead, pm_dead, pm_dead] [] (cd f A R wr) _
  refine pe_aload_n (j := 0) (by decide +kernel) rfl ?_
  refine pe_iload_n (j := 1) (by decide +kernel) rfl ?_
  refine pz_callV (j := 79) (mj := 30) (by decide +kernel) (cll_V (args := [.int 0]) (n := 1) (by decide +kernel) rfl rfl cd_o23 (by decide +kernel) (Nat.le_of_ble_eq_true rfl) (Nat.le_of_ble_eq_true rfl)) (CM_30 hX hI (hR4)) (fun q1a q1b q1c q1d hqq1 => ?_)
  obtain ⟨rq1, eq1, kq1⟩ := hqq1
  cases eq1
  refine ⟨rfl, rfl, ?_⟩
  show pmE pg X pg_tyl pg_cl (d + 7) 29 5 [.ref 23, .int 0, pm_dead, pm_dead, pm_dead] [.int rq1] (cd f A R wr) _
  refine pe_istore_n (j := 2) (ls' := [.ref 23, .int 0, .int rq1, pm_dead, pm_dead]) (by decide +kernel) (Nat.le_of_ble_eq_true rfl) rfl ?_
  refine pe_iload_n (j := 2) (by decide +kernel) rfl ?_
  refine pe_iconstv (n := (-1)) (v := (-1)) (by decide +kernel) (by decide +kernel) ?_
  refine pz_icmp_ne (off := 5) (t := 13) (by decide +kernel) (by decide) rfl rfl kz_m1 (fun h2 => ?_) (fun h2 => ?_)
  · skip
    refine pe_aload_n (j := 0) (by decide +kernel) rfl ?_
    refine pe_iload_n (j := 2) (by decide +kernel) rfl ?_
    refine pi_V (j := 83) (mj := 44) (by decide +kernel) (cll_V (args := [.int rq1]) (n := 1) (by decide +kernel) rfl rfl cd_o23 (by decide +kernel) (Nat.le_of_ble_eq_true rfl) (Nat.le_of_ble_eq_true rfl)) ?_
    show pmE pg X pg_tyl pg_cl (d + 6) 44 0 [.ref 23, .int rq1] [] (cd f A R wr) _
    refine pe_iload_n (j := 1) (by decide +kernel) rfl ?_
    refine pe_bipushv (n := 12) (v := 12) (by decide +kernel) (by decide +kernel) ?_
    refine pz_icmp_ne (off := 21) (t := 24) (by decide +kernel) (by decide) rfl rfl kz_12 (fun h3 => ?_) (fun h3 => ?_)
    · skip
      refine pe_iload_n (j := 1) (by decide +kernel) rfl ?_
      refine pi_S (j := 101) (mj := 45) (by decide +kernel) (by decide +kernel) rfl ?_
      show pmE pg X pg_tyl pg_cl (d + 5) 45 0 [.int rq1] [] (cd f A R wr) _
      refine pe_iload_n (j := 0) (by decide +kernel) rfl ?_
      refine pe_iconstv (n := 5) (v := 5) (by decide +kernel) (by decide +kernel) ?_
      refine pz_icmp_gt (off := 7) (t := 9) (by decide +kernel) (by decide) rfl rfl kz_5 (fun h4 => ?_) (fun h4 => ?_)
      · skip
        refine pe_iconstv (n := 0) (v := 0) (by decide +kernel) (by decide +kernel) ?_
        refine pe_iret (by decide +kernel) rfl rfl ⟨rfl, rfl, ?_⟩
        show pmE pg X pg_tyl pg_cl (d + 6) 44 28 [.ref 23, .int rq1] [.int 0] (cd f A R wr) _
        refine pz_if_eq (off := 19) (t := 47) (by decide +kernel) (by decide) rfl kz_0 (fun h5 => ?_) (fun h5 => by omega)
        refine pe_iconstv (n := 0) (v := 0) (by decide +kernel) (by decide +kernel) ?_
        refine pe_iret (by decide +kernel) rfl rfl ⟨rfl, rfl, ?_⟩
        show pmE pg X pg_tyl pg_cl (d + 7) 29 18 [.ref 23, .int 0, .int rq1, pm_dead, pm_dead] [.int 0] (cd f A R wr) _
        refine pz_if_eq (off := 12) (t := 30) (by decide +kernel) (by decide) rfl kz_0 (fun h6 => ?_) (fun h6 => by omega)
        refine pe_aload_n (j := 0) (by decide +kernel) rfl ?_
        refine pz_callV (j := 59) (mj := 23) (by decide +kernel) (cll_V (args := []) (n := 0) (by decide +kernel) rfl rfl cd_o23 (by decide +kernel) (Nat.le_of_ble_eq_true rfl) (Nat.le_of_ble_eq_true rfl)) (CM_23 hX hI (hR4)) (fun q7a q7b q7c q7d hqq7 => ?_)
        obtain ⟨f8, eq7, hIq7, hGq7, kq7⟩ := hqq7
        cases eq7
        refine ⟨rfl, rfl, ?_⟩
        show pmE pg X pg_tyl pg_cl (d + 7) 29 34 [.ref 23, .int 0, .int rq1, pm_dead, pm_dead] [] (cd f8 A R wr) _
        refine pe_iconstv (n := 0) (v := 0) (by decide +kernel) (by decide +kernel) ?_
        refine pe_istore_n (j := 3) (ls' := [.ref 23, .int 0, .int rq1, .int 0, pm_dead]) (by decide +kernel) (Nat.le_of_ble_eq_true rfl) rfl ?_
        refine pe_iconstv (n := 0) (v := 0) (by decide +kernel) (by decide +kernel) ?_
        refine pe_istore (j := 4) (ls' := [.ref 23, .int 0, .int rq1, .int 0, .int 0]) (by decide +kernel) (Nat.le_of_ble_eq_true rfl) rfl ?_
        have hl19 := kz_0
        have hl20 := kz_0
        refine CL_29_39 hX (hR4) (by omega) (fun f9 A10 y11 y12 hIy13 hGf9 hFA10 gy11 gy12 hx14 hp15 => ?_) (fun f16 A17 hIy18 hGf16 hFA17 => ⟨f16, A17, 0, rfl, hIy18, (fun k n373 n374 n375 n376 n377 n378 n379 n384 n385 n386 n464 => ((hGf16 k n373 n374 n375 n376 n378 n379)).trans ((hGq7 k n373 n374 n375 n376))), (fun k n25 n26 n27 n28 n30 n31 => (hFA17 k n31)), Or.inl ⟨rfl, trivial⟩⟩) 601 f8 A 0 0 hIq7 (fun k _ _ _ _ _ _ => rfl) (fun k _ => rfl) (by decide +kernel) (by decide +kernel) (by omega) (fun _ i h1 h2 _ => absurd h2 (by rw [kz_0]; omega)) (by decide +kernel)
        refine pe_iload_n (j := 3) (by decide +kernel) rfl ?_
        refine pe_getstatic (j := 86) (v := .retAddr 1) (by decide +kernel) (by decide +kernel) ?_
        refine pe_iload_n (j := 2) (by decide +kernel) rfl ?_
        refine pz_ialdX (n := 13) (by decide +kernel) (hX 1 (by decide +kernel)) rfl rfl (by omega) (by omega) (fun v21 ev21 => ?_)
        have rv21 : 0 ≤ v21.toInt ∧ v21.toInt ≤ 4 := by rw [ev21]; exact lt_all (by decide +kernel) (by decide) _
        refine pz_icmp_lt (off := 11) (t := 124) (by decide +kernel) (by decide) rfl rfl rfl (fun h22 => ?_) (fun h22 => ?_)
        · skip
          refine pe_iconstv (n := 0) (v := 0) (by decide +kernel) (by decide +kernel) ?_
          exact pe_iret (by decide +kernel) rfl rfl ⟨f9, A10, 0, rfl, hIy13, (fun k n373 n374 n375 n376 n377 n378 n379 n384 n385 n386 n464 => ((hGf9 k n373 n374 n375 n376 n378 n379)).trans ((hGq7 k n373 n374 n375 n376))), (fun k n25 n26 n27 n28 n30 n31 => (hFA10 k n31)), Or.inl ⟨rfl, trivial⟩⟩
        · skip
          refine pe_aload_n (j := 0) (by decide +kernel) rfl ?_
          refine pe_get (j := 62) (ci := 4) (n := 6) (by decide +kernel) (by decide +kernel) cd_o23 rfl ?_
          have hr_f9_374 := cf_374 hIy13
          refine pe_iconstv (n := 3) (v := 3) (by decide +kernel) (by decide +kernel) ?_
          refine pz_icmp_eq (off := 5) (t := 126) (by decide +kernel) (by decide) rfl rfl kz_3 (fun h23 => ?_) (fun h23 => ?_)
          · skip
            refine pe_aload_n (j := 0) (by decide +kernel) rfl ?_
            refine pz_callV (j := 59) (mj := 23) (by decide +kernel) (cll_V (args := []) (n := 0) (by decide +kernel) rfl rfl cd_o23 (by decide +kernel) (Nat.le_of_ble_eq_true rfl) (Nat.le_of_ble_eq_true rfl)) (CM_23 hX hIy13 (hR4)) (fun q24a q24b q24c q24d hqq24 => ?_)
            obtain ⟨f25, eq24, hIq24, hGq24, kq24⟩ := hqq24
            cases eq24
            refine ⟨rfl, rfl, ?_⟩
            show pmE pg X pg_tyl pg_cl (d + 7) 29 130 [.ref 23, .int 0, .int rq1, .int y11, .int y12] [] (cd f25 A10 R wr) _
            refine pe_aload_n (j := 0) (by decide +kernel) rfl ?_
            refine pe_get (j := 53) (ci := 4) (n := 10) (by decide +kernel) (by decide +kernel) cd_o23 rfl ?_
            refine pe_top (v := (f9 378)) ((hGq24 378 (by decide) (by decide) (by decide) (by decide))) ?_
            have lw27 := zi_lo (f9 378)
            have uw27 := zi_hi (f9 378)
            refine pz_if_ne (off := 9) (t := 143) (by decide +kernel) (by decide) rfl rfl (fun h26 => ?_) (fun h26 => ?_)
            · skip
              refine pe_iconstv (n := 1) (v := 1) (by decide +kernel) (by decide +kernel) ?_
              exact pe_iret (by decide +kernel) rfl rfl ⟨f25, A10, 1, rfl, hIq24, (fun k n373 n374 n375 n376 n377 n378 n379 n384 n385 n386 n464 => ((hGq24 k n373 n374 n375 n376)).trans (((hGf9 k n373 n374 n375 n376 n378 n379)).trans ((hGq7 k n373 n374 n375 n376)))), (fun k n25 n26 n27 n28 n30 n31 => (hFA10 k n31)), Or.inr (⟨rfl, trivial⟩)⟩
            · skip
              by_cases h28 : rq1.toInt = 6
              · skip
                rw [show rq1 = 6 from ti_eq (h28.trans kz_6.symm)]
                have hlk29 := kz_6
                have hdue : v21.toInt = 1 := by rw [ev21, h28]; decide +kernel
                have hnb0 : 2 ≤ ((A10 31).getD 0 0).toInt ∧ ((A10 31).getD 0 0).toInt ≤ 9 := by
                  have hb := hp15 (by omega) 0 (by omega) (by omega) (by omega)
                  rw [h28, show lo2 6 0 = 2 by decide +kernel, show hi2 6 0 = 9 by decide +kernel] at hb
                  exact hb
                refine pe_aload_n (j := 0) (by decide +kernel) rfl ?_
                refine pe_iload_n (j := 2) (by decide +kernel) rfl ?_
                refine pe_iload_n (j := 3) (by decide +kernel) rfl ?_
                refine pz_callV (j := 95) (mj := 49) (by decide +kernel) (cll_V (args := [.int y11, .int 6]) (n := 2) (by decide +kernel) rfl rfl cd_o23 (by decide +kernel) (Nat.le_of_ble_eq_true rfl) (Nat.le_of_ble_eq_true rfl)) (CM_49_6 hX hIq24 (by omega) (by omega)) (fun q30a q30b q30c q30d hqq30 => ?_)
                obtain ⟨f31, eq30, hIq30, hGq30, kq30⟩ := hqq30
                cases eq30
                refine ⟨rfl, rfl, ?_⟩
                show pmE pg X pg_tyl pg_cl (d + 7) 29 143 [.ref 23, .int 0, .int 6, .int y11, .int y12] [] (cd f31 A10 R wr) _
                refine pe_iconstv (n := 1) (v := 1) (by decide +kernel) (by decide +kernel) ?_
                exact pe_iret (by decide +kernel) rfl rfl ⟨f31, A10, 1, rfl, hIq30, (fun k n373 n374 n375 n376 n377 n378 n379 n384 n385 n386 n464 => ((hGq30 k n384)).trans (((hGq24 k n373 n374 n375 n376)).trans (((hGf9 k n373 n374 n375 n376 n378 n379)).trans ((hGq7 k n373 n374 n375 n376))))), (fun k n25 n26 n27 n28 n30 n31 => (hFA10 k n31)), Or.inr (⟨rfl, trivial⟩)⟩
              · skip
                by_cases h32 : rq1.toInt = 7
                · skip
                  rw [show rq1 = 7 from ti_eq (h32.trans kz_7.symm)]
                  have hlk33 := kz_7
                  have hdue : v21.toInt = 3 := by rw [ev21, h32]; decide +kernel
                  have hnb0 : 0 ≤ ((A10 31).getD 0 0).toInt ∧ ((A10 31).getD 0 0).toInt ≤ 8 := by
                    have hb := hp15 (by omega) 0 (by omega) (by omega) (by omega)
                    rw [h32, show lo2 7 0 = 0 by decide +kernel, show hi2 7 0 = 8 by decide +kernel] at hb
                    exact hb
                  have hnb1 : 0 ≤ ((A10 31).getD 1 0).toInt ∧ ((A10 31).getD 1 0).toInt ≤ 8 := by
                    have hb := hp15 (by omega) 1 (by omega) (by omega) (by omega)
                    rw [h32, show lo2 7 1 = 0 by decide +kernel, show hi2 7 1 = 8 by decide +kernel] at hb
                    exact hb
                  refine pe_aload_n (j := 0) (by decide +kernel) rfl ?_
                  refine pe_iload_n (j := 2) (by decide +kernel) rfl ?_
                  refine pe_iload_n (j := 3) (by decide +kernel) rfl ?_
                  refine pz_callV (j := 95) (mj := 49) (by decide +kernel) (cll_V (args := [.int y11, .int 7]) (n := 2) (by decide +kernel) rfl rfl cd_o23 (by decide +kernel) (Nat.le_of_ble_eq_true rfl) (Nat.le_of_ble_eq_true rfl)) (CM_49_7 hX hIq24 (by omega) (by omega) (by omega) (by omega)) (fun q34a q34b q34c q34d hqq34 => ?_)
                  obtain ⟨f35, A36, eq34, hIq34, hGq34, hFq34, kq34⟩ := hqq34
                  cases eq34
                  refine ⟨rfl, rfl, ?_⟩
                  show pmE pg X pg_tyl pg_cl (d + 7) 29 143 [.ref 23, .int 0, .int 7, .int y11, .int y12] [] (cd f35 A36 R wr) _
                  refine pe_iconstv (n := 1) (v := 1) (by decide +kernel) (by decide +kernel) ?_
                  exact pe_iret (by decide +kernel) rfl rfl ⟨f35, A36, 1, rfl, hIq34, (fun k n373 n374 n375 n376 n377 n378 n379 n384 n385 n386 n464 => ((hGq34 k n377)).trans (((hGq24 k n373 n374 n375 n376)).trans (((hGf9 k n373 n374 n375 n376 n378 n379)).trans ((hGq7 k n373 n374 n375 n376))))), (fun k n25 n26 n27 n28 n30 n31 => ((hFq34 k n25)).trans ((hFA10 k n31))), Or.inr (⟨rfl, trivial⟩)⟩
                · skip
                  by_cases h37 : rq1.toInt = 8
                  · skip
                    rw [show rq1 = 8 from ti_eq (h37.trans kz_8.symm)]
                    have hlk38 := kz_8
                    have hdue : v21.toInt = 1 := by rw [ev21, h37]; decide +kernel
                    refine pe_aload_n (j := 0) (by decide +kernel) rfl ?_
                    refine pe_iload_n (j := 2) (by decide +kernel) rfl ?_
                    refine pe_iload_n (j := 3) (by decide +kernel) rfl ?_
                    refine pz_callV (j := 95) (mj := 49) (by decide +kernel) (cll_V (args := [.int y11, .int 8]) (n := 2) (by decide +kernel) rfl rfl cd_o23 (by decide +kernel) (Nat.le_of_ble_eq_true rfl) (Nat.le_of_ble_eq_true rfl)) (CM_49_8 hX hIq24) (fun q39a q39b q39c q39d hqq39 => ?_)
                    obtain ⟨A40, eq39, hIq39, hFq39, kq39⟩ := hqq39
                    cases eq39
                    refine ⟨rfl, rfl, ?_⟩
                    show pmE pg X pg_tyl pg_cl (d + 7) 29 143 [.ref 23, .int 0, .int 8, .int y11, .int y12] [] (cd f25 A40 R wr) _
                    refine pe_iconstv (n := 1) (v := 1) (by decide +kernel) (by decide +kernel) ?_
                    exact pe_iret (by decide +kernel) rfl rfl ⟨f25, A40, 1, rfl, hIq39, (fun k n373 n374 n375 n376 n377 n378 n379 n384 n385 n386 n464 => ((hGq24 k n373 n374 n375 n376)).trans (((hGf9 k n373 n374 n375 n376 n378 n379)).trans ((hGq7 k n373 n374 n375 n376)))), (fun k n25 n26 n27 n28 n30 n31 => ((hFq39 k n25)).trans ((hFA10 k n31))), Or.inr (⟨rfl, trivial⟩)⟩
                  · skip
                    by_cases h41 : rq1.toInt = 9
                    · skip
                      rw [show rq1 = 9 from ti_eq (h41.trans kz_9.symm)]
                      have hlk42 := kz_9
                      have hdue : v21.toInt = 2 := by rw [ev21, h41]; decide +kernel
                      have hnb0 : 0 ≤ ((A10 31).getD 0 0).toInt ∧ ((A10 31).getD 0 0).toInt ≤ 8 := by
                        have hb := hp15 (by omega) 0 (by omega) (by omega) (by omega)
                        rw [h41, show lo2 9 0 = 0 by decide +kernel, show hi2 9 0 = 8 by decide +kernel] at hb
                        exact hb
                      refine pe_aload_n (j := 0) (by decide +kernel) rfl ?_
                      refine pe_iload_n (j := 2) (by decide +kernel) rfl ?_
                      refine pe_iload_n (j := 3) (by decide +kernel) rfl ?_
                      refine pz_callV (j := 95) (mj := 49) (by decide +kernel) (cll_V (args := [.int y11, .int 9]) (n := 2) (by decide +kernel) rfl rfl cd_o23 (by decide +kernel) (Nat.le_of_ble_eq_true rfl) (Nat.le_of_ble_eq_true rfl)) (CM_49_9 hX hIq24 (by omega) (by omega)) (fun q43a q43b q43c q43d hqq43 => ?_)
                      obtain ⟨f44, A45, eq43, hIq43, hGq43, hFq43, kq43⟩ := hqq43
                      cases eq43
                      refine ⟨rfl, rfl, ?_⟩
                      show pmE pg X pg_tyl pg_cl (d + 7) 29 143 [.ref 23, .int 0, .int 9, .int y11, .int y12] [] (cd f44 A45 R wr) _
                      refine pe_iconstv (n := 1) (v := 1) (by decide +kernel) (by decide +kernel) ?_
                      exact pe_iret (by decide +kernel) rfl rfl ⟨f44, A45, 1, rfl, hIq43, (fun k n373 n374 n375 n376 n377 n378 n379 n384 n385 n386 n464 => ((hGq43 k n377)).trans (((hGq24 k n373 n374 n375 n376)).trans (((hGf9 k n373 n374 n375 n376 n378 n379)).trans ((hGq7 k n373 n374 n375 n376))))), (fun k n25 n26 n27 n28 n30 n31 => ((hFq43 k n26)).trans ((hFA10 k n31))), Or.inr (⟨rfl, trivial⟩)⟩
                    · skip
                      by_cases h46 : rq1.toInt = 10
                      · skip
                        rw [show rq1 = 10 from ti_eq (h46.trans kz_10.symm)]
                        have hlk47 := kz_10
                        have hdue : v21.toInt = 2 := by rw [ev21, h46]; decide +kernel
                        have hnb0 : 0 ≤ ((A10 31).getD 0 0).toInt ∧ ((A10 31).getD 0 0).toInt ≤ 8 := by
                          have hb := hp15 (by omega) 0 (by omega) (by omega) (by omega)
                          rw [h46, show lo2 10 0 = 0 by decide +kernel, show hi2 10 0 = 8 by decide +kernel] at hb
                          exact hb
                        refine pe_aload_n (j := 0) (by decide +kernel) rfl ?_
                        refine pe_iload_n (j := 2) (by decide +kernel) rfl ?_
                        refine pe_iload_n (j := 3) (by decide +kernel) rfl ?_
                        refine pz_callV (j := 95) (mj := 49) (by decide +kernel) (cll_V (args := [.int y11, .int 10]) (n := 2) (by decide +kernel) rfl rfl cd_o23 (by decide +kernel) (Nat.le_of_ble_eq_true rfl) (Nat.le_of_ble_eq_true rfl)) (CM_49_10 hX hIq24 (by omega) (by omega)) (fun q48a q48b q48c q48d hqq48 => ?_)
                        obtain ⟨f49, A50, eq48, hIq48, hGq48, hFq48, kq48⟩ := hqq48
                        cases eq48
                        refine ⟨rfl, rfl, ?_⟩
                        show pmE pg X pg_tyl pg_cl (d + 7) 29 143 [.ref 23, .int 0, .int 10, .int y11, .int y12] [] (cd f49 A50 R wr) _
                        refine pe_iconstv (n := 1) (v := 1) (by decide +kernel) (by decide +kernel) ?_
                        exact pe_iret (by decide +kernel) rfl rfl ⟨f49, A50, 1, rfl, hIq48, (fun k n373 n374 n375 n376 n377 n378 n379 n384 n385 n386 n464 => ((hGq48 k n377)).trans (((hGq24 k n373 n374 n375 n376)).trans (((hGf9 k n373 n374 n375 n376 n378 n379)).trans ((hGq7 k n373 n374 n375 n376))))), (fun k n25 n26 n27 n28 n30 n31 => ((hFq48 k n27)).trans ((hFA10 k n31))), Or.inr (⟨rfl, trivial⟩)⟩
                      · skip
                        by_cases h51 : rq1.toInt = 11
                        · skip
                          rw [show rq1 = 11 from ti_eq (h51.trans kz_11.symm)]
                          have hlk52 := kz_11
                          have hdue : v21.toInt = 1 := by rw [ev21, h51]; decide +kernel
                          refine pe_aload_n (j := 0) (by decide +kernel) rfl ?_
                          refine pe_iload_n (j := 2) (by decide +kernel) rfl ?_
                          refine pe_iload_n (j := 3) (by decide +kernel) rfl ?_
                          refine pz_callV (j := 95) (mj := 49) (by decide +kernel) (cll_V (args := [.int y11, .int 11]) (n := 2) (by decide +kernel) rfl rfl cd_o23 (by decide +kernel) (Nat.le_of_ble_eq_true rfl) (Nat.le_of_ble_eq_true rfl)) (CM_49_11 hX hIq24) (fun q53a q53b q53c q53d hqq53 => ?_)
                          obtain ⟨f54, eq53, hIq53, hGq53, kq53⟩ := hqq53
                          cases eq53
                          refine ⟨rfl, rfl, ?_⟩
                          show pmE pg X pg_tyl pg_cl (d + 7) 29 143 [.ref 23, .int 0, .int 11, .int y11, .int y12] [] (cd f54 A10 R wr) _
                          refine pe_iconstv (n := 1) (v := 1) (by decide +kernel) (by decide +kernel) ?_
                          exact pe_iret (by decide +kernel) rfl rfl ⟨f54, A10, 1, rfl, hIq53, (fun k n373 n374 n375 n376 n377 n378 n379 n384 n385 n386 n464 => ((hGq53 k n385)).trans (((hGq24 k n373 n374 n375 n376)).trans (((hGf9 k n373 n374 n375 n376 n378 n379)).trans ((hGq7 k n373 n374 n375 n376))))), (fun k n25 n26 n27 n28 n30 n31 => (hFA10 k n31)), Or.inr (⟨rfl, trivial⟩)⟩
                        · skip
                          exfalso; omega
          · skip
            refine pe_iconstv (n := 0) (v := 0) (by decide +kernel) (by decide +kernel) ?_
            exact pe_iret (by decide +kernel) rfl rfl ⟨f9, A10, 0, rfl, hIy13, (fun k n373 n374 n375 n376 n377 n378 n379 n384 n385 n386 n464 => ((hGf9 k n373 n374 n375 n376 n378 n379)).trans ((hGq7 k n373 n374 n375 n376))), (fun k n25 n26 n27 n28 n30 n31 => (hFA10 k n31)), Or.inl ⟨rfl, trivial⟩⟩
      · skip
        refine pe_iconstv (n := 1) (v := 1) (by decide +kernel) (by decide +kernel) ?_
        refine pe_goto (off := 4) (t := 10) (by decide +kernel) (by decide) rfl ?_
        refine pe_iret (by decide +kernel) rfl rfl ⟨rfl, rfl, ?_⟩
        show pmE pg X pg_tyl pg_cl (d + 6) 44 28 [.ref 23, .int rq1] [.int 1] (cd f A R wr) _
        refine pz_if_eq (off := 19) (t := 47) (by decide +kernel) (by decide) rfl kz_1 (fun h55 => by omega) (fun h55 => ?_)
        refine pe_aload_n (j := 0) (by decide +kernel) rfl ?_
        refine pe_get (j := 21) (ci := 4) (n := 1) (by decide +kernel) (by decide +kernel) cd_o23 rfl ?_
        refine pe_get (j := 104) (ci := 5) (n := 0) (by decide +kernel) (by decide +kernel) cd_o29 rfl ?_
        have hr_f_464 := cf_464 hI
        refine pe_bipushv (n := 30) (v := 30) (by decide +kernel) (by decide +kernel) ?_
        refine pz_icmp_lt (off := 7) (t := 47) (by decide +kernel) (by decide) rfl rfl kz_30 (fun h56 => ?_) (fun h56 => ?_)
        · skip
          refine pe_iconstv (n := 0) (v := 0) (by decide +kernel) (by decide +kernel) ?_
          refine pe_iret (by decide +kernel) rfl rfl ⟨rfl, rfl, ?_⟩
          show pmE pg X pg_tyl pg_cl (d + 7) 29 18 [.ref 23, .int 0, .int rq1, pm_dead, pm_dead] [.int 0] (cd f A R wr) _
          refine pz_if_eq (off := 12) (t := 30) (by decide +kernel) (by decide) rfl kz_0 (fun h57 => ?_) (fun h57 => by omega)
          refine pe_aload_n (j := 0) (by decide +kernel) rfl ?_
          refine pz_callV (j := 59) (mj := 23) (by decide +kernel) (cll_V (args := []) (n := 0) (by decide +kernel) rfl rfl cd_o23 (by decide +kernel) (Nat.le_of_ble_eq_true rfl) (Nat.le_of_ble_eq_true rfl)) (CM_23 hX hI (hR4)) (fun q58a q58b q58c q58d hqq58 => ?_)
          obtain ⟨f59, eq58, hIq58, hGq58, kq58⟩ := hqq58
          cases eq58
          refine ⟨rfl, rfl, ?_⟩
          show pmE pg X pg_tyl pg_cl (d + 7) 29 34 [.ref 23, .int 0, .int rq1, pm_dead, pm_dead] [] (cd f59 A R wr) _
          refine pe_iconstv (n := 0) (v := 0) (by decide +kernel) (by decide +kernel) ?_
          refine pe_istore_n (j := 3) (ls' := [.ref 23, .int 0, .int rq1, .int 0, pm_dead]) (by decide +kernel) (Nat.le_of_ble_eq_true rfl) rfl ?_
          refine pe_iconstv (n := 0) (v := 0) (by decide +kernel) (by decide +kernel) ?_
          refine pe_istore (j := 4) (ls' := [.ref 23, .int 0, .int rq1, .int 0, .int 0]) (by decide +kernel) (Nat.le_of_ble_eq_true rfl) rfl ?_
          have hl70 := kz_0
          have hl71 := kz_0
          refine CL_29_39 hX (hR4) (by omega) (fun f60 A61 y62 y63 hIy64 hGf60 hFA61 gy62 gy63 hx65 hp66 => ?_) (fun f67 A68 hIy69 hGf67 hFA68 => ⟨f67, A68, 0, rfl, hIy69, (fun k n373 n374 n375 n376 n377 n378 n379 n384 n385 n386 n464 => ((hGf67 k n373 n374 n375 n376 n378 n379)).trans ((hGq58 k n373 n374 n375 n376))), (fun k n25 n26 n27 n28 n30 n31 => (hFA68 k n31)), Or.inl ⟨rfl, trivial⟩⟩) 601 f59 A 0 0 hIq58 (fun k _ _ _ _ _ _ => rfl) (fun k _ => rfl) (by decide +kernel) (by decide +kernel) (by omega) (fun _ i h1 h2 _ => absurd h2 (by rw [kz_0]; omega)) (by decide +kernel)
          refine pe_iload_n (j := 3) (by decide +kernel) rfl ?_
          refine pe_getstatic (j := 86) (v := .retAddr 1) (by decide +kernel) (by decide +kernel) ?_
          refine pe_iload_n (j := 2) (by decide +kernel) rfl ?_
          refine pz_ialdX (n := 13) (by decide +kernel) (hX 1 (by decide +kernel)) rfl rfl (by omega) (by omega) (fun v72 ev72 => ?_)
          have rv72 : 0 ≤ v72.toInt ∧ v72.toInt ≤ 4 := by rw [ev72]; exact lt_all (by decide +kernel) (by decide) _
          refine pz_icmp_lt (off := 11) (t := 124) (by decide +kernel) (by decide) rfl rfl rfl (fun h73 => ?_) (fun h73 => ?_)
          · skip
            refine pe_iconstv (n := 0) (v := 0) (by decide +kernel) (by decide +kernel) ?_
            exact pe_iret (by decide +kernel) rfl rfl ⟨f60, A61, 0, rfl, hIy64, (fun k n373 n374 n375 n376 n377 n378 n379 n384 n385 n386 n464 => ((hGf60 k n373 n374 n375 n376 n378 n379)).trans ((hGq58 k n373 n374 n375 n376))), (fun k n25 n26 n27 n28 n30 n31 => (hFA61 k n31)), Or.inl ⟨rfl, trivial⟩⟩
          · skip
            refine pe_aload_n (j := 0) (by decide +kernel) rfl ?_
            refine pe_get (j := 62) (ci := 4) (n := 6) (by decide +kernel) (by decide +kernel) cd_o23 rfl ?_
            have hr_f60_374 := cf_374 hIy64
            refine pe_iconstv (n := 3) (v := 3) (by decide +kernel) (by decide +kernel) ?_
            refine pz_icmp_eq (off := 5) (t := 126) (by decide +kernel) (by decide) rfl rfl kz_3 (fun h74 => ?_) (fun h74 => ?_)
            · skip
              refine pe_aload_n (j := 0) (by decide +kernel) rfl ?_
              refine pz_callV (j := 59) (mj := 23) (by decide +kernel) (cll_V (args := []) (n := 0) (by decide +kernel) rfl rfl cd_o23 (by decide +kernel) (Nat.le_of_ble_eq_true rfl) (Nat.le_of_ble_eq_true rfl)) (CM_23 hX hIy64 (hR4)) (fun q75a q75b q75c q75d hqq75 => ?_)
              obtain ⟨f76, eq75, hIq75, hGq75, kq75⟩ := hqq75
              cases eq75
              refine ⟨rfl, rfl, ?_⟩
              show pmE pg X pg_tyl pg_cl (d + 7) 29 130 [.ref 23, .int 0, .int rq1, .int y62, .int y63] [] (cd f76 A61 R wr) _
              refine pe_aload_n (j := 0) (by decide +kernel) rfl ?_
              refine pe_get (j := 53) (ci := 4) (n := 10) (by decide +kernel) (by decide +kernel) cd_o23 rfl ?_
              refine pe_top (v := (f60 378)) ((hGq75 378 (by decide) (by decide) (by decide) (by decide))) ?_
              have lw78 := zi_lo (f60 378)
              have uw78 := zi_hi (f60 378)
              refine pz_if_ne (off := 9) (t := 143) (by decide +kernel) (by decide) rfl rfl (fun h77 => ?_) (fun h77 => ?_)
              · skip
                refine pe_iconstv (n := 1) (v := 1) (by decide +kernel) (by decide +kernel) ?_
                exact pe_iret (by decide +kernel) rfl rfl ⟨f76, A61, 1, rfl, hIq75, (fun k n373 n374 n375 n376 n377 n378 n379 n384 n385 n386 n464 => ((hGq75 k n373 n374 n375 n376)).trans (((hGf60 k n373 n374 n375 n376 n378 n379)).trans ((hGq58 k n373 n374 n375 n376)))), (fun k n25 n26 n27 n28 n30 n31 => (hFA61 k n31)), Or.inr (⟨rfl, trivial⟩)⟩
              · skip
                by_cases h79 : rq1.toInt = 0
                · skip
                  rw [show rq1 = 0 from ti_eq (h79.trans kz_0.symm)]
                  have hlk80 := kz_0
                  have hdue : v72.toInt = 3 := by rw [ev72, h79]; decide +kernel
                  refine pe_aload_n (j := 0) (by decide +kernel) rfl ?_
                  refine pe_iload_n (j := 2) (by decide +kernel) rfl ?_
                  refine pe_iload_n (j := 3) (by decide +kernel) rfl ?_
                  refine pz_callV (j := 95) (mj := 49) (by decide +kernel) (cll_V (args := [.int y62, .int 0]) (n := 2) (by decide +kernel) rfl rfl cd_o23 (by decide +kernel) (Nat.le_of_ble_eq_true rfl) (Nat.le_of_ble_eq_true rfl)) (CM_49 hX hIq75) (fun q81a q81b q81c q81d hqq81 => ?_)
                  obtain ⟨f82, A83, eq81, hIq81, hGq81, hFq81, kq81⟩ := hqq81
                  cases eq81
                  refine ⟨rfl, rfl, ?_⟩
                  show pmE pg X pg_tyl pg_cl (d + 7) 29 143 [.ref 23, .int 0, .int 0, .int y62, .int y63] [] (cd f82 A83 R wr) _
                  refine pe_iconstv (n := 1) (v := 1) (by decide +kernel) (by decide +kernel) ?_
                  exact pe_iret (by decide +kernel) rfl rfl ⟨f82, A83, 1, rfl, hIq81, (fun k n373 n374 n375 n376 n377 n378 n379 n384 n385 n386 n464 => ((hGq81 k n464)).trans (((hGq75 k n373 n374 n375 n376)).trans (((hGf60 k n373 n374 n375 n376 n378 n379)).trans ((hGq58 k n373 n374 n375 n376))))), (fun k n25 n26 n27 n28 n30 n31 => ((hFq81 k n30)).trans ((hFA61 k n31))), Or.inr (⟨rfl, trivial⟩)⟩
                · skip
                  by_cases h84 : rq1.toInt = 1
                  · skip
                    rw [show rq1 = 1 from ti_eq (h84.trans kz_1.symm)]
                    have hlk85 := kz_1
                    have hdue : v72.toInt = 3 := by rw [ev72, h84]; decide +kernel
                    refine pe_aload_n (j := 0) (by decide +kernel) rfl ?_
                    refine pe_iload_n (j := 2) (by decide +kernel) rfl ?_
                    refine pe_iload_n (j := 3) (by decide +kernel) rfl ?_
                    refine pz_callV (j := 95) (mj := 49) (by decide +kernel) (cll_V (args := [.int y62, .int 1]) (n := 2) (by decide +kernel) rfl rfl cd_o23 (by decide +kernel) (Nat.le_of_ble_eq_true rfl) (Nat.le_of_ble_eq_true rfl)) (CM_49_1 hX hIq75) (fun q86a q86b q86c q86d hqq86 => ?_)
                    obtain ⟨f87, A88, eq86, hIq86, hGq86, hFq86, kq86⟩ := hqq86
                    cases eq86
                    refine ⟨rfl, rfl, ?_⟩
                    show pmE pg X pg_tyl pg_cl (d + 7) 29 143 [.ref 23, .int 0, .int 1, .int y62, .int y63] [] (cd f87 A88 R wr) _
                    refine pe_iconstv (n := 1) (v := 1) (by decide +kernel) (by decide +kernel) ?_
                    exact pe_iret (by decide +kernel) rfl rfl ⟨f87, A88, 1, rfl, hIq86, (fun k n373 n374 n375 n376 n377 n378 n379 n384 n385 n386 n464 => ((hGq86 k n464)).trans (((hGq75 k n373 n374 n375 n376)).trans (((hGf60 k n373 n374 n375 n376 n378 n379)).trans ((hGq58 k n373 n374 n375 n376))))), (fun k n25 n26 n27 n28 n30 n31 => ((hFq86 k n30)).trans ((hFA61 k n31))), Or.inr (⟨rfl, trivial⟩)⟩
                  · skip
                    by_cases h89 : rq1.toInt = 2
                    · skip
                      rw [show rq1 = 2 from ti_eq (h89.trans kz_2.symm)]
                      have hlk90 := kz_2
                      have hdue : v72.toInt = 4 := by rw [ev72, h89]; decide +kernel
                      refine pe_aload_n (j := 0) (by decide +kernel) rfl ?_
                      refine pe_iload_n (j := 2) (by decide +kernel) rfl ?_
                      refine pe_iload_n (j := 3) (by decide +kernel) rfl ?_
                      refine pz_callV (j := 95) (mj := 49) (by decide +kernel) (cll_V (args := [.int y62, .int 2]) (n := 2) (by decide +kernel) rfl rfl cd_o23 (by decide +kernel) (Nat.le_of_ble_eq_true rfl) (Nat.le_of_ble_eq_true rfl)) (CM_49_2 hX hIq75) (fun q91a q91b q91c q91d hqq91 => ?_)
                      obtain ⟨f92, A93, eq91, hIq91, hGq91, hFq91, kq91⟩ := hqq91
                      cases eq91
                      refine ⟨rfl, rfl, ?_⟩
                      show pmE pg X pg_tyl pg_cl (d + 7) 29 143 [.ref 23, .int 0, .int 2, .int y62, .int y63] [] (cd f92 A93 R wr) _
                      refine pe_iconstv (n := 1) (v := 1) (by decide +kernel) (by decide +kernel) ?_
                      exact pe_iret (by decide +kernel) rfl rfl ⟨f92, A93, 1, rfl, hIq91, (fun k n373 n374 n375 n376 n377 n378 n379 n384 n385 n386 n464 => ((hGq91 k n464)).trans (((hGq75 k n373 n374 n375 n376)).trans (((hGf60 k n373 n374 n375 n376 n378 n379)).trans ((hGq58 k n373 n374 n375 n376))))), (fun k n25 n26 n27 n28 n30 n31 => ((hFq91 k n30)).trans ((hFA61 k n31))), Or.inr (⟨rfl, trivial⟩)⟩
                    · skip
                      by_cases h94 : rq1.toInt = 3
                      · skip
                        rw [show rq1 = 3 from ti_eq (h94.trans kz_3.symm)]
                        have hlk95 := kz_3
                        have hdue : v72.toInt = 1 := by rw [ev72, h94]; decide +kernel
                        refine pe_aload_n (j := 0) (by decide +kernel) rfl ?_
                        refine pe_iload_n (j := 2) (by decide +kernel) rfl ?_
                        refine pe_iload_n (j := 3) (by decide +kernel) rfl ?_
                        refine pz_callV (j := 95) (mj := 49) (by decide +kernel) (cll_V (args := [.int y62, .int 3]) (n := 2) (by decide +kernel) rfl rfl cd_o23 (by decide +kernel) (Nat.le_of_ble_eq_true rfl) (Nat.le_of_ble_eq_true rfl)) (CM_49_3 hX hIq75) (fun q96a q96b q96c q96d hqq96 => ?_)
                        obtain ⟨f97, A98, eq96, hIq96, hGq96, hFq96, kq96⟩ := hqq96
                        cases eq96
                        refine ⟨rfl, rfl, ?_⟩
                        show pmE pg X pg_tyl pg_cl (d + 7) 29 143 [.ref 23, .int 0, .int 3, .int y62, .int y63] [] (cd f97 A98 R wr) _
                        refine pe_iconstv (n := 1) (v := 1) (by decide +kernel) (by decide +kernel) ?_
                        exact pe_iret (by decide +kernel) rfl rfl ⟨f97, A98, 1, rfl, hIq96, (fun k n373 n374 n375 n376 n377 n378 n379 n384 n385 n386 n464 => ((hGq96 k n464)).trans (((hGq75 k n373 n374 n375 n376)).trans (((hGf60 k n373 n374 n375 n376 n378 n379)).trans ((hGq58 k n373 n374 n375 n376))))), (fun k n25 n26 n27 n28 n30 n31 => ((hFq96 k n30)).trans ((hFA61 k n31))), Or.inr (⟨rfl, trivial⟩)⟩
                      · skip
                        by_cases h99 : rq1.toInt = 4
                        · skip
                          rw [show rq1 = 4 from ti_eq (h99.trans kz_4.symm)]
                          have hlk100 := kz_4
                          have hdue : v72.toInt = 1 := by rw [ev72, h99]; decide +kernel
                          refine pe_aload_n (j := 0) (by decide +kernel) rfl ?_
                          refine pe_iload_n (j := 2) (by decide +kernel) rfl ?_
                          refine pe_iload_n (j := 3) (by decide +kernel) rfl ?_
                          refine pz_callV (j := 95) (mj := 49) (by decide +kernel) (cll_V (args := [.int y62, .int 4]) (n := 2) (by decide +kernel) rfl rfl cd_o23 (by decide +kernel) (Nat.le_of_ble_eq_true rfl) (Nat.le_of_ble_eq_true rfl)) (CM_49_4 hX hIq75) (fun q101a q101b q101c q101d hqq101 => ?_)
                          obtain ⟨f102, A103, eq101, hIq101, hGq101, hFq101, kq101⟩ := hqq101
                          cases eq101
                          refine ⟨rfl, rfl, ?_⟩
                          show pmE pg X pg_tyl pg_cl (d + 7) 29 143 [.ref 23, .int 0, .int 4, .int y62, .int y63] [] (cd f102 A103 R wr) _
                          refine pe_iconstv (n := 1) (v := 1) (by decide +kernel) (by decide +kernel) ?_
                          exact pe_iret (by decide +kernel) rfl rfl ⟨f102, A103, 1, rfl, hIq101, (fun k n373 n374 n375 n376 n377 n378 n379 n384 n385 n386 n464 => ((hGq101 k n464)).trans (((hGq75 k n373 n374 n375 n376)).trans (((hGf60 k n373 n374 n375 n376 n378 n379)).trans ((hGq58 k n373 n374 n375 n376))))), (fun k n25 n26 n27 n28 n30 n31 => ((hFq101 k n30)).trans ((hFA61 k n31))), Or.inr (⟨rfl, trivial⟩)⟩
                        · skip
                          by_cases h104 : rq1.toInt = 5
                          · skip
                            rw [show rq1 = 5 from ti_eq (h104.trans kz_5.symm)]
                            have hlk105 := kz_5
                            have hdue : v72.toInt = 0 := by rw [ev72, h104]; decide +kernel
                            refine pe_aload_n (j := 0) (by decide +kernel) rfl ?_
                            refine pe_iload_n (j := 2) (by decide +kernel) rfl ?_
                            refine pe_iload_n (j := 3) (by decide +kernel) rfl ?_
                            refine pz_callV (j := 95) (mj := 49) (by decide +kernel) (cll_V (args := [.int y62, .int 5]) (n := 2) (by decide +kernel) rfl rfl cd_o23 (by decide +kernel) (Nat.le_of_ble_eq_true rfl) (Nat.le_of_ble_eq_true rfl)) (CM_49_5 hX hIq75) (fun q106a q106b q106c q106d hqq106 => ?_)
                            obtain ⟨f107, A108, eq106, hIq106, hGq106, hFq106, kq106⟩ := hqq106
                            cases eq106
                            refine ⟨rfl, rfl, ?_⟩
                            show pmE pg X pg_tyl pg_cl (d + 7) 29 143 [.ref 23, .int 0, .int 5, .int y62, .int y63] [] (cd f107 A108 R wr) _
                            refine pe_iconstv (n := 1) (v := 1) (by decide +kernel) (by decide +kernel) ?_
                            exact pe_iret (by decide +kernel) rfl rfl ⟨f107, A108, 1, rfl, hIq106, (fun k n373 n374 n375 n376 n377 n378 n379 n384 n385 n386 n464 => ((hGq106 k n464)).trans (((hGq75 k n373 n374 n375 n376)).trans (((hGf60 k n373 n374 n375 n376 n378 n379)).trans ((hGq58 k n373 n374 n375 n376))))), (fun k n25 n26 n27 n28 n30 n31 => ((hFq106 k n30)).trans ((hFA61 k n31))), Or.inr (⟨rfl, trivial⟩)⟩
                          · skip
                            exfalso; omega
            · skip
              refine pe_iconstv (n := 0) (v := 0) (by decide +kernel) (by decide +kernel) ?_
              exact pe_iret (by decide +kernel) rfl rfl ⟨f60, A61, 0, rfl, hIy64, (fun k n373 n374 n375 n376 n377 n378 n379 n384 n385 n386 n464 => ((hGf60 k n373 n374 n375 n376 n378 n379)).trans ((hGq58 k n373 n374 n375 n376))), (fun k n25 n26 n27 n28 n30 n31 => (hFA61 k n31)), Or.inl ⟨rfl, trivial⟩⟩
        · skip
          refine pe_iconstv (n := 1) (v := 1) (by decide +kernel) (by decide +kernel) ?_
          refine pe_goto (off := 4) (t := 48) (by decide +kernel) (by decide) rfl ?_
          refine pe_iret (by decide +kernel) rfl rfl ⟨rfl, rfl, ?_⟩
          show pmE pg X pg_tyl pg_cl (d + 7) 29 18 [.ref 23, .int 0, .int rq1, pm_dead, pm_dead] [.int 1] (cd f A R wr) _
          refine pz_if_eq (off := 12) (t := 30) (by decide +kernel) (by decide) rfl kz_1 (fun h109 => by omega) (fun h109 => ?_)
          refine pe_aload_n (j := 0) (by decide +kernel) rfl ?_
          refine pe_iconstv (n := 3) (v := 3) (by decide +kernel) (by decide +kernel) ?_
          refine pe_aload_n (j := 0) (by decide +kernel) rfl ?_
          refine pe_get (j := 69) (ci := 4) (n := 7) (by decide +kernel) (by decide +kernel) cd_o23 rfl ?_
          have hr_f_375 := cf_375 hI
          refine pi_V (j := 75) (mj := 46) (by decide +kernel) (cll_V (args := [.int (f 375), .int 3]) (n := 2) (by decide +kernel) rfl rfl cd_o23 (by decide +kernel) (Nat.le_of_ble_eq_true rfl) (Nat.le_of_ble_eq_true rfl)) ?_
          show pmE pg X pg_tyl pg_cl (d + 6) 46 0 [.ref 23, .int 3, .int (f 375)] [] (cd f A R wr) _
          refine pe_aload_n (j := 0) (by decide +kernel) rfl ?_
          refine pe_get (j := 53) (ci := 4) (n := 10) (by decide +kernel) (by decide +kernel) cd_o23 rfl ?_
          have lw111 := zi_lo (f 378)
          have uw111 := zi_hi (f 378)
          refine pz_if_ne (off := 13) (t := 17) (by decide +kernel) (by decide) rfl rfl (fun h110 => ?_) (fun h110 => ?_)
          · skip
            refine pe_vret (by decide +kernel) rfl ⟨rfl, rfl, ?_⟩
            show pmE pg X pg_tyl pg_cl (d + 7) 29 30 [.ref 23, .int 0, .int rq1, pm_dead, pm_dead] [] (cd f A R wr) _
            refine pe_aload_n (j := 0) (by decide +kernel) rfl ?_
            refine pz_callV (j := 59) (mj := 23) (by decide +kernel) (cll_V (args := []) (n := 0) (by decide +kernel) rfl rfl cd_o23 (by decide +kernel) (Nat.le_of_ble_eq_true rfl) (Nat.le_of_ble_eq_true rfl)) (CM_23 hX hI (hR4)) (fun q112a q112b q112c q112d hqq112 => ?_)
            obtain ⟨f113, eq112, hIq112, hGq112, kq112⟩ := hqq112
            cases eq112
            refine ⟨rfl, rfl, ?_⟩
            show pmE pg X pg_tyl pg_cl (d + 7) 29 34 [.ref 23, .int 0, .int rq1, pm_dead, pm_dead] [] (cd f113 A R wr) _
            refine pe_iconstv (n := 0) (v := 0) (by decide +kernel) (by decide +kernel) ?_
            refine pe_istore_n (j := 3) (ls' := [.ref 23, .int 0, .int rq1, .int 0, pm_dead]) (by decide +kernel) (Nat.le_of_ble_eq_true rfl) rfl ?_
            refine pe_iconstv (n := 0) (v := 0) (by decide +kernel) (by decide +kernel) ?_
            refine pe_istore (j := 4) (ls' := [.ref 23, .int 0, .int rq1, .int 0, .int 0]) (by decide +kernel) (Nat.le_of_ble_eq_true rfl) rfl ?_
            have hl124 := kz_0
            have hl125 := kz_0
            refine CL_29_39 hX (hR4) (by omega) (fun f114 A115 y116 y117 hIy118 hGf114 hFA115 gy116 gy117 hx119 hp120 => ?_) (fun f121 A122 hIy123 hGf121 hFA122 => ⟨f121, A122, 0, rfl, hIy123, (fun k n373 n374 n375 n376 n377 n378 n379 n384 n385 n386 n464 => ((hGf121 k n373 n374 n375 n376 n378 n379)).trans ((hGq112 k n373 n374 n375 n376))), (fun k n25 n26 n27 n28 n30 n31 => (hFA122 k n31)), Or.inl ⟨rfl, trivial⟩⟩) 601 f113 A 0 0 hIq112 (fun k _ _ _ _ _ _ => rfl) (fun k _ => rfl) (by decide +kernel) (by decide +kernel) (by omega) (fun _ i h1 h2 _ => absurd h2 (by rw [kz_0]; omega)) (by decide +kernel)
            refine pe_iload_n (j := 3) (by decide +kernel) rfl ?_
            refine pe_getstatic (j := 86) (v := .retAddr 1) (by decide +kernel) (by decide +kernel) ?_
            refine pe_iload_n (j := 2) (by decide +kernel) rfl ?_
            refine pz_ialdX (n := 13) (by decide +kernel) (hX 1 (by decide +kernel)) rfl rfl (by omega) (by omega) (fun v126 ev126 => ?_)
            have rv126 : 0 ≤ v126.toInt ∧ v126.toInt ≤ 4 := by rw [ev126]; exact lt_all (by decide +kernel) (by decide) _
            refine pz_icmp_lt (off := 11) (t := 124) (by decide +kernel) (by decide) rfl rfl rfl (fun h127 => ?_) (fun h127 => ?_)
            · skip
              refine pe_iconstv (n := 0) (v := 0) (by decide +kernel) (by decide +kernel) ?_
              exact pe_iret (by decide +kernel) rfl rfl ⟨f114, A115, 0, rfl, hIy118, (fun k n373 n374 n375 n376 n377 n378 n379 n384 n385 n386 n464 => ((hGf114 k n373 n374 n375 n376 n378 n379)).trans ((hGq112 k n373 n374 n375 n376))), (fun k n25 n26 n27 n28 n30 n31 => (hFA115 k n31)), Or.inl ⟨rfl, trivial⟩⟩
            · skip
              refine pe_aload_n (j := 0) (by decide +kernel) rfl ?_
              refine pe_get (j := 62) (ci := 4) (n := 6) (by decide +kernel) (by decide +kernel) cd_o23 rfl ?_
              have hr_f114_374 := cf_374 hIy118
              refine pe_iconstv (n := 3) (v := 3) (by decide +kernel) (by decide +kernel) ?_
              refine pz_icmp_eq (off := 5) (t := 126) (by decide +kernel) (by decide) rfl rfl kz_3 (fun h128 => ?_) (fun h128 => ?_)
              · skip
                refine pe_aload_n (j := 0) (by decide +kernel) rfl ?_
                refine pz_callV (j := 59) (mj := 23) (by decide +kernel) (cll_V (args := []) (n := 0) (by decide +kernel) rfl rfl cd_o23 (by decide +kernel) (Nat.le_of_ble_eq_true rfl) (Nat.le_of_ble_eq_true rfl)) (CM_23 hX hIy118 (hR4)) (fun q129a q129b q129c q129d hqq129 => ?_)
                obtain ⟨f130, eq129, hIq129, hGq129, kq129⟩ := hqq129
                cases eq129
                refine ⟨rfl, rfl, ?_⟩
                show pmE pg X pg_tyl pg_cl (d + 7) 29 130 [.ref 23, .int 0, .int rq1, .int y116, .int y117] [] (cd f130 A115 R wr) _
                refine pe_aload_n (j := 0) (by decide +kernel) rfl ?_
                refine pe_get (j := 53) (ci := 4) (n := 10) (by decide +kernel) (by decide +kernel) cd_o23 rfl ?_
                refine pe_top (v := (f114 378)) ((hGq129 378 (by decide) (by decide) (by decide) (by decide))) ?_
                have lw132 := zi_lo (f114 378)
                have uw132 := zi_hi (f114 378)
                refine pz_if_ne (off := 9) (t := 143) (by decide +kernel) (by decide) rfl rfl (fun h131 => ?_) (fun h131 => ?_)
                · skip
                  refine pe_iconstv (n := 1) (v := 1) (by decide +kernel) (by decide +kernel) ?_
                  exact pe_iret (by decide +kernel) rfl rfl ⟨f130, A115, 1, rfl, hIq129, (fun k n373 n374 n375 n376 n377 n378 n379 n384 n385 n386 n464 => ((hGq129 k n373 n374 n375 n376)).trans (((hGf114 k n373 n374 n375 n376 n378 n379)).trans ((hGq112 k n373 n374 n375 n376)))), (fun k n25 n26 n27 n28 n30 n31 => (hFA115 k n31)), Or.inr (⟨rfl, trivial⟩)⟩
                · skip
                  by_cases h133 : rq1.toInt = 0
                  · skip
                    rw [show rq1 = 0 from ti_eq (h133.trans kz_0.symm)]
                    have hlk134 := kz_0
                    have hdue : v126.toInt = 3 := by rw [ev126, h133]; decide +kernel
                    refine pe_aload_n (j := 0) (by decide +kernel) rfl ?_
                    refine pe_iload_n (j := 2) (by decide +kernel) rfl ?_
                    refine pe_iload_n (j := 3) (by decide +kernel) rfl ?_
                    refine pz_callV (j := 95) (mj := 49) (by decide +kernel) (cll_V (args := [.int y116, .int 0]) (n := 2) (by decide +kernel) rfl rfl cd_o23 (by decide +kernel) (Nat.le_of_ble_eq_true rfl) (Nat.le_of_ble_eq_true rfl)) (CM_49 hX hIq129) (fun q135a q135b q135c q135d hqq135 => ?_)
                    obtain ⟨f136, A137, eq135, hIq135, hGq135, hFq135, kq135⟩ := hqq135
                    cases eq135
                    refine ⟨rfl, rfl, ?_⟩
                    show pmE pg X pg_tyl pg_cl (d + 7) 29 143 [.ref 23, .int 0, .int 0, .int y116, .int y117] [] (cd f136 A137 R wr) _
                    refine pe_iconstv (n := 1) (v := 1) (by decide +kernel) (by decide +kernel) ?_
                    exact pe_iret (by decide +kernel) rfl rfl ⟨f136, A137, 1, rfl, hIq135, (fun k n373 n374 n375 n376 n377 n378 n379 n384 n385 n386 n464 => ((hGq135 k n464)).trans (((hGq129 k n373 n374 n375 n376)).trans (((hGf114 k n373 n374 n375 n376 n378 n379)).trans ((hGq112 k n373 n374 n375 n376))))), (fun k n25 n26 n27 n28 n30 n31 => ((hFq135 k n30)).trans ((hFA115 k n31))), Or.inr (⟨rfl, trivial⟩)⟩
                  · skip
                    by_cases h138 : rq1.toInt = 1
                    · skip
                      rw [show rq1 = 1 from ti_eq (h138.trans kz_1.symm)]
                      have hlk139 := kz_1
                      have hdue : v126.toInt = 3 := by rw [ev126, h138]; decide +kernel
                      refine pe_aload_n (j := 0) (by decide +kernel) rfl ?_
                      refine pe_iload_n (j := 2) (by decide +kernel) rfl ?_
                      refine pe_iload_n (j := 3) (by decide +kernel) rfl ?_
                      refine pz_callV (j := 95) (mj := 49) (by decide +kernel) (cll_V (args := [.int y116, .int 1]) (n := 2) (by decide +kernel) rfl rfl cd_o23 (by decide +kernel) (Nat.le_of_ble_eq_true rfl) (Nat.le_of_ble_eq_true rfl)) (CM_49_1 hX hIq129) (fun q140a q140b q140c q140d hqq140 => ?_)
                      obtain ⟨f141, A142, eq140, hIq140, hGq140, hFq140, kq140⟩ := hqq140
                      cases eq140
                      refine ⟨rfl, rfl, ?_⟩
                      show pmE pg X pg_tyl pg_cl (d + 7) 29 143 [.ref 23, .int 0, .int 1, .int y116, .int y117] [] (cd f141 A142 R wr) _
                      refine pe_iconstv (n := 1) (v := 1) (by decide +kernel) (by decide +kernel) ?_
                      exact pe_iret (by decide +kernel) rfl rfl ⟨f141, A142, 1, rfl, hIq140, (fun k n373 n374 n375 n376 n377 n378 n379 n384 n385 n386 n464 => ((hGq140 k n464)).trans (((hGq129 k n373 n374 n375 n376)).trans (((hGf114 k n373 n374 n375 n376 n378 n379)).trans ((hGq112 k n373 n374 n375 n376))))), (fun k n25 n26 n27 n28 n30 n31 => ((hFq140 k n30)).trans ((hFA115 k n31))), Or.inr (⟨rfl, trivial⟩)⟩
                    · skip
                      by_cases h143 : rq1.toInt = 2
                      · skip
                        rw [show rq1 = 2 from ti_eq (h143.trans kz_2.symm)]
                        have hlk144 := kz_2
                        have hdue : v126.toInt = 4 := by rw [ev126, h143]; decide +kernel
                        refine pe_aload_n (j := 0) (by decide +kernel) rfl ?_
                        refine pe_iload_n (j := 2) (by decide +kernel) rfl ?_
                        refine pe_iload_n (j := 3) (by decide +kernel) rfl ?_
                        refine pz_callV (j := 95) (mj := 49) (by decide +kernel) (cll_V (args := [.int y116, .int 2]) (n := 2) (by decide +kernel) rfl rfl cd_o23 (by decide +kernel) (Nat.le_of_ble_eq_true rfl) (Nat.le_of_ble_eq_true rfl)) (CM_49_2 hX hIq129) (fun q145a q145b q145c q145d hqq145 => ?_)
                        obtain ⟨f146, A147, eq145, hIq145, hGq145, hFq145, kq145⟩ := hqq145
                        cases eq145
                        refine ⟨rfl, rfl, ?_⟩
                        show pmE pg X pg_tyl pg_cl (d + 7) 29 143 [.ref 23, .int 0, .int 2, .int y116, .int y117] [] (cd f146 A147 R wr) _
                        refine pe_iconstv (n := 1) (v := 1) (by decide +kernel) (by decide +kernel) ?_
                        exact pe_iret (by decide +kernel) rfl rfl ⟨f146, A147, 1, rfl, hIq145, (fun k n373 n374 n375 n376 n377 n378 n379 n384 n385 n386 n464 => ((hGq145 k n464)).trans (((hGq129 k n373 n374 n375 n376)).trans (((hGf114 k n373 n374 n375 n376 n378 n379)).trans ((hGq112 k n373 n374 n375 n376))))), (fun k n25 n26 n27 n28 n30 n31 => ((hFq145 k n30)).trans ((hFA115 k n31))), Or.inr (⟨rfl, trivial⟩)⟩
                      · skip
                        by_cases h148 : rq1.toInt = 3
                        · skip
                          rw [show rq1 = 3 from ti_eq (h148.trans kz_3.symm)]
                          have hlk149 := kz_3
                          have hdue : v126.toInt = 1 := by rw [ev126, h148]; decide +kernel
                          refine pe_aload_n (j := 0) (by decide +kernel) rfl ?_
                          refine pe_iload_n (j := 2) (by decide +kernel) rfl ?_
                          refine pe_iload_n (j := 3) (by decide +kernel) rfl ?_
                          refine pz_callV (j := 95) (mj := 49) (by decide +kernel) (cll_V (args := [.int y116, .int 3]) (n := 2) (by decide +kernel) rfl rfl cd_o23 (by decide +kernel) (Nat.le_of_ble_eq_true rfl) (Nat.le_of_ble_eq_true rfl)) (CM_49_3 hX hIq129) (fun q150a q150b q150c q150d hqq150 => ?_)
                          obtain ⟨f151, A152, eq150, hIq150, hGq150, hFq150, kq150⟩ := hqq150
                          cases eq150
                          refine ⟨rfl, rfl, ?_⟩
                          show pmE pg X pg_tyl pg_cl (d + 7) 29 143 [.ref 23, .int 0, .int 3, .int y116, .int y117] [] (cd f151 A152 R wr) _
                          refine pe_iconstv (n := 1) (v := 1) (by decide +kernel) (by decide +kernel) ?_
                          exact pe_iret (by decide +kernel) rfl rfl ⟨f151, A152, 1, rfl, hIq150, (fun k n373 n374 n375 n376 n377 n378 n379 n384 n385 n386 n464 => ((hGq150 k n464)).trans (((hGq129 k n373 n374 n375 n376)).trans (((hGf114 k n373 n374 n375 n376 n378 n379)).trans ((hGq112 k n373 n374 n375 n376))))), (fun k n25 n26 n27 n28 n30 n31 => ((hFq150 k n30)).trans ((hFA115 k n31))), Or.inr (⟨rfl, trivial⟩)⟩
                        · skip
                          by_cases h153 : rq1.toInt = 4
                          · skip
                            rw [show rq1 = 4 from ti_eq (h153.trans kz_4.symm)]
                            have hlk154 := kz_4
                            have hdue : v126.toInt = 1 := by rw [ev126, h153]; decide +kernel
                            refine pe_aload_n (j := 0) (by decide +kernel) rfl ?_
                            refine pe_iload_n (j := 2) (by decide +kernel) rfl ?_
                            refine pe_iload_n (j := 3) (by decide +kernel) rfl ?_
                            refine pz_callV (j := 95) (mj := 49) (by decide +kernel) (cll_V (args := [.int y116, .int 4]) (n := 2) (by decide +kernel) rfl rfl cd_o23 (by decide +kernel) (Nat.le_of_ble_eq_true rfl) (Nat.le_of_ble_eq_true rfl)) (CM_49_4 hX hIq129) (fun q155a q155b q155c q155d hqq155 => ?_)
                            obtain ⟨f156, A157, eq155, hIq155, hGq155, hFq155, kq155⟩ := hqq155
                            cases eq155
                            refine ⟨rfl, rfl, ?_⟩
                            show pmE pg X pg_tyl pg_cl (d + 7) 29 143 [.ref 23, .int 0, .int 4, .int y116, .int y117] [] (cd f156 A157 R wr) _
                            refine pe_iconstv (n := 1) (v := 1) (by decide +kernel) (by decide +kernel) ?_
                            exact pe_iret (by decide +kernel) rfl rfl ⟨f156, A157, 1, rfl, hIq155, (fun k n373 n374 n375 n376 n377 n378 n379 n384 n385 n386 n464 => ((hGq155 k n464)).trans (((hGq129 k n373 n374 n375 n376)).trans (((hGf114 k n373 n374 n375 n376 n378 n379)).trans ((hGq112 k n373 n374 n375 n376))))), (fun k n25 n26 n27 n28 n30 n31 => ((hFq155 k n30)).trans ((hFA115 k n31))), Or.inr (⟨rfl, trivial⟩)⟩
                          · skip
                            by_cases h158 : rq1.toInt = 5
                            · skip
                              rw [show rq1 = 5 from ti_eq (h158.trans kz_5.symm)]
                              have hlk159 := kz_5
                              have hdue : v126.toInt = 0 := by rw [ev126, h158]; decide +kernel
                              refine pe_aload_n (j := 0) (by decide +kernel) rfl ?_
                              refine pe_iload_n (j := 2) (by decide +kernel) rfl ?_
                              refine pe_iload_n (j := 3) (by decide +kernel) rfl ?_
                              refine pz_callV (j := 95) (mj := 49) (by decide +kernel) (cll_V (args := [.int y116, .int 5]) (n := 2) (by decide +kernel) rfl rfl cd_o23 (by decide +kernel) (Nat.le_of_ble_eq_true rfl) (Nat.le_of_ble_eq_true rfl)) (CM_49_5 hX hIq129) (fun q160a q160b q160c q160d hqq160 => ?_)
                              obtain ⟨f161, A162, eq160, hIq160, hGq160, hFq160, kq160⟩ := hqq160
                              cases eq160
                              refine ⟨rfl, rfl, ?_⟩
                              show pmE pg X pg_tyl pg_cl (d + 7) 29 143 [.ref 23, .int 0, .int 5, .int y116, .int y117] [] (cd f161 A162 R wr) _
                              refine pe_iconstv (n := 1) (v := 1) (by decide +kernel) (by decide +kernel) ?_
                              exact pe_iret (by decide +kernel) rfl rfl ⟨f161, A162, 1, rfl, hIq160, (fun k n373 n374 n375 n376 n377 n378 n379 n384 n385 n386 n464 => ((hGq160 k n464)).trans (((hGq129 k n373 n374 n375 n376)).trans (((hGf114 k n373 n374 n375 n376 n378 n379)).trans ((hGq112 k n373 n374 n375 n376))))), (fun k n25 n26 n27 n28 n30 n31 => ((hFq160 k n30)).trans ((hFA115 k n31))), Or.inr (⟨rfl, trivial⟩)⟩
                            · skip
                              exfalso; omega
              · skip
                refine pe_iconstv (n := 0) (v := 0) (by decide +kernel) (by decide +kernel) ?_
                exact pe_iret (by decide +kernel) rfl rfl ⟨f114, A115, 0, rfl, hIy118, (fun k n373 n374 n375 n376 n377 n378 n379 n384 n385 n386 n464 => ((hGf114 k n373 n374 n375 n376 n378 n379)).trans ((hGq112 k n373 n374 n375 n376))), (fun k n25 n26 n27 n28 n30 n31 => (hFA115 k n31)), Or.inl ⟨rfl, trivial⟩⟩
          · skip
            refine pe_aload_n (j := 0) (by decide +kernel) rfl ?_
            refine pe_iload_n (j := 1) (by decide +kernel) rfl ?_
            refine cz_put378 (jj := 53) (by decide +kernel) (by decide +kernel) hI (fun f163 ef163 hIf163 => ?_)
            refine pe_aload_n (j := 0) (by decide +kernel) rfl ?_
            refine pe_iload_n (j := 2) (by decide +kernel) rfl ?_
            refine cz_put379 (jj := 56) (by decide +kernel) (by decide +kernel) hIf163 (fun f164 ef164 hIf164 => ?_)
            refine pe_vret (by decide +kernel) rfl ⟨rfl, rfl, ?_⟩
            show pmE pg X pg_tyl pg_cl (d + 7) 29 30 [.ref 23, .int 0, .int rq1, pm_dead, pm_dead] [] (cd f164 A R wr) _
            refine pe_aload_n (j := 0) (by decide +kernel) rfl ?_
            refine pz_callV (j := 59) (mj := 23) (by decide +kernel) (cll_V (args := []) (n := 0) (by decide +kernel) rfl rfl cd_o23 (by decide +kernel) (Nat.le_of_ble_eq_true rfl) (Nat.le_of_ble_eq_true rfl)) (CM_23 hX hIf164 (hR4)) (fun q165a q165b q165c q165d hqq165 => ?_)
            obtain ⟨f166, eq165, hIq165, hGq165, kq165⟩ := hqq165
            cases eq165
            refine ⟨rfl, rfl, ?_⟩
            show pmE pg X pg_tyl pg_cl (d + 7) 29 34 [.ref 23, .int 0, .int rq1, pm_dead, pm_dead] [] (cd f166 A R wr) _
            refine pe_iconstv (n := 0) (v := 0) (by decide +kernel) (by decide +kernel) ?_
            refine pe_istore_n (j := 3) (ls' := [.ref 23, .int 0, .int rq1, .int 0, pm_dead]) (by decide +kernel) (Nat.le_of_ble_eq_true rfl) rfl ?_
            refine pe_iconstv (n := 0) (v := 0) (by decide +kernel) (by decide +kernel) ?_
            refine pe_istore (j := 4) (ls' := [.ref 23, .int 0, .int rq1, .int 0, .int 0]) (by decide +kernel) (Nat.le_of_ble_eq_true rfl) rfl ?_
            have hl177 := kz_0
            have hl178 := kz_0
            refine CL_29_39 hX (hR4) (by omega) (fun f167 A168 y169 y170 hIy171 hGf167 hFA168 gy169 gy170 hx172 hp173 => ?_) (fun f174 A175 hIy176 hGf174 hFA175 => ⟨f174, A175, 0, rfl, hIy176, (fun k n373 n374 n375 n376 n377 n378 n379 n384 n385 n386 n464 => ((hGf174 k n373 n374 n375 n376 n378 n379)).trans (((hGq165 k n373 n374 n375 n376)).trans ((upf_fr ef164 n379).trans (upf_fr ef163 n378)))), (fun k n25 n26 n27 n28 n30 n31 => (hFA175 k n31)), Or.inl ⟨rfl, trivial⟩⟩) 601 f166 A 0 0 hIq165 (fun k _ _ _ _ _ _ => rfl) (fun k _ => rfl) (by decide +kernel) (by decide +kernel) (by omega) (fun _ i h1 h2 _ => absurd h2 (by rw [kz_0]; omega)) (by decide +kernel)
            refine pe_iload_n (j := 3) (by decide +kernel) rfl ?_
            refine pe_getstatic (j := 86) (v := .retAddr 1) (by decide +kernel) (by decide +kernel) ?_
            refine pe_iload_n (j := 2) (by decide +kernel) rfl ?_
            refine pz_ialdX (n := 13) (by decide +kernel) (hX 1 (by decide +kernel)) rfl rfl (by omega) (by omega) (fun v179 ev179 => ?_)
            have rv179 : 0 ≤ v179.toInt ∧ v179.toInt ≤ 4 := by rw [ev179]; exact lt_all (by decide +kernel) (by decide) _
            refine pz_icmp_lt (off := 11) (t := 124) (by decide +kernel) (by decide) rfl rfl rfl (fun h180 => ?_) (fun h180 => ?_)
            · skip
              refine pe_iconstv (n := 0) (v := 0) (by decide +kernel) (by decide +kernel) ?_
              exact pe_iret (by decide +kernel) rfl rfl ⟨f167, A168, 0, rfl, hIy171, (fun k n373 n374 n375 n376 n377 n378 n379 n384 n385 n386 n464 => ((hGf167 k n373 n374 n375 n376 n378 n379)).trans (((hGq165 k n373 n374 n375 n376)).trans ((upf_fr ef164 n379).trans (upf_fr ef163 n378)))), (fun k n25 n26 n27 n28 n30 n31 => (hFA168 k n31)), Or.inl ⟨rfl, trivial⟩⟩
            · skip
              refine pe_aload_n (j := 0) (by decide +kernel) rfl ?_
              refine pe_get (j := 62) (ci := 4) (n := 6) (by decide +kernel) (by decide +kernel) cd_o23 rfl ?_
              have hr_f167_374 := cf_374 hIy171
              refine pe_iconstv (n := 3) (v := 3) (by decide +kernel) (by decide +kernel) ?_
              refine pz_icmp_eq (off := 5) (t := 126) (by decide +kernel) (by decide) rfl rfl kz_3 (fun h181 => ?_) (fun h181 => ?_)
              · skip
                refine pe_aload_n (j := 0) (by decide +kernel) rfl ?_
                refine pz_callV (j := 59) (mj := 23) (by decide +kernel) (cll_V (args := []) (n := 0) (by decide +kernel) rfl rfl cd_o23 (by decide +kernel) (Nat.le_of_ble_eq_true rfl) (Nat.le_of_ble_eq_true rfl)) (CM_23 hX hIy171 (hR4)) (fun q182a q182b q182c q182d hqq182 => ?_)
                obtain ⟨f183, eq182, hIq182, hGq182, kq182⟩ := hqq182
                cases eq182
                refine ⟨rfl, rfl, ?_⟩
                show pmE pg X pg_tyl pg_cl (d + 7) 29 130 [.ref 23, .int 0, .int rq1, .int y169, .int y170] [] (cd f183 A168 R wr) _
                refine pe_aload_n (j := 0) (by decide +kernel) rfl ?_
                refine pe_get (j := 53) (ci := 4) (n := 10) (by decide +kernel) (by decide +kernel) cd_o23 rfl ?_
                refine pe_top (v := (f167 378)) ((hGq182 378 (by decide) (by decide) (by decide) (by decide))) ?_
                have lw185 := zi_lo (f167 378)
                have uw185 := zi_hi (f167 378)
                refine pz_if_ne (off := 9) (t := 143) (by decide +kernel) (by decide) rfl rfl (fun h184 => ?_) (fun h184 => ?_)
                · skip
                  refine pe_iconstv (n := 1) (v := 1) (by decide +kernel) (by decide +kernel) ?_
                  exact pe_iret (by decide +kernel) rfl rfl ⟨f183, A168, 1, rfl, hIq182, (fun k n373 n374 n375 n376 n377 n378 n379 n384 n385 n386 n464 => ((hGq182 k n373 n374 n375 n376)).trans (((hGf167 k n373 n374 n375 n376 n378 n379)).trans (((hGq165 k n373 n374 n375 n376)).trans ((upf_fr ef164 n379).trans (upf_fr ef163 n378))))), (fun k n25 n26 n27 n28 n30 n31 => (hFA168 k n31)), Or.inr (⟨rfl, trivial⟩)⟩
                · skip
                  by_cases h186 : rq1.toInt = 0
                  · skip
                    rw [show rq1 = 0 from ti_eq (h186.trans kz_0.symm)]
                    have hlk187 := kz_0
                    have hdue : v179.toInt = 3 := by rw [ev179, h186]; decide +kernel
                    refine pe_aload_n (j := 0) (by decide +kernel) rfl ?_
                    refine pe_iload_n (j := 2) (by decide +kernel) rfl ?_
                    refine pe_iload_n (j := 3) (by decide +kernel) rfl ?_
                    refine pz_callV (j := 95) (mj := 49) (by decide +kernel) (cll_V (args := [.int y169, .int 0]) (n := 2) (by decide +kernel) rfl rfl cd_o23 (by decide +kernel) (Nat.le_of_ble_eq_true rfl) (Nat.le_of_ble_eq_true rfl)) (CM_49 hX hIq182) (fun q188a q188b q188c q188d hqq188 => ?_)
                    obtain ⟨f189, A190, eq188, hIq188, hGq188, hFq188, kq188⟩ := hqq188
                    cases eq188
                    refine ⟨rfl, rfl, ?_⟩
                    show pmE pg X pg_tyl pg_cl (d + 7) 29 143 [.ref 23, .int 0, .int 0, .int y169, .int y170] [] (cd f189 A190 R wr) _
                    refine pe_iconstv (n := 1) (v := 1) (by decide +kernel) (by decide +kernel) ?_
                    exact pe_iret (by decide +kernel) rfl rfl ⟨f189, A190, 1, rfl, hIq188, (fun k n373 n374 n375 n376 n377 n378 n379 n384 n385 n386 n464 => ((hGq188 k n464)).trans (((hGq182 k n373 n374 n375 n376)).trans (((hGf167 k n373 n374 n375 n376 n378 n379)).trans (((hGq165 k n373 n374 n375 n376)).trans ((upf_fr ef164 n379).trans (upf_fr ef163 n378)))))), (fun k n25 n26 n27 n28 n30 n31 => ((hFq188 k n30)).trans ((hFA168 k n31))), Or.inr (⟨rfl, trivial⟩)⟩
                  · skip
                    by_cases h191 : rq1.toInt = 1
                    · skip
                      rw [show rq1 = 1 from ti_eq (h191.trans kz_1.symm)]
                      have hlk192 := kz_1
                      have hdue : v179.toInt = 3 := by rw [ev179, h191]; decide +kernel
                      refine pe_aload_n (j := 0) (by decide +kernel) rfl ?_
                      refine pe_iload_n (j := 2) (by decide +kernel) rfl ?_
                      refine pe_iload_n (j := 3) (by decide +kernel) rfl ?_
                      refine pz_callV (j := 95) (mj := 49) (by decide +kernel) (cll_V (args := [.int y169, .int 1]) (n := 2) (by decide +kernel) rfl rfl cd_o23 (by decide +kernel) (Nat.le_of_ble_eq_true rfl) (Nat.le_of_ble_eq_true rfl)) (CM_49_1 hX hIq182) (fun q193a q193b q193c q193d hqq193 => ?_)
                      obtain ⟨f194, A195, eq193, hIq193, hGq193, hFq193, kq193⟩ := hqq193
                      cases eq193
                      refine ⟨rfl, rfl, ?_⟩
                      show pmE pg X pg_tyl pg_cl (d + 7) 29 143 [.ref 23, .int 0, .int 1, .int y169, .int y170] [] (cd f194 A195 R wr) _
                      refine pe_iconstv (n := 1) (v := 1) (by decide +kernel) (by decide +kernel) ?_
                      exact pe_iret (by decide +kernel) rfl rfl ⟨f194, A195, 1, rfl, hIq193, (fun k n373 n374 n375 n376 n377 n378 n379 n384 n385 n386 n464 => ((hGq193 k n464)).trans (((hGq182 k n373 n374 n375 n376)).trans (((hGf167 k n373 n374 n375 n376 n378 n379)).trans (((hGq165 k n373 n374 n375 n376)).trans ((upf_fr ef164 n379).trans (upf_fr ef163 n378)))))), (fun k n25 n26 n27 n28 n30 n31 => ((hFq193 k n30)).trans ((hFA168 k n31))), Or.inr (⟨rfl, trivial⟩)⟩
                    · skip
                      by_cases h196 : rq1.toInt = 2
                      · skip
                        rw [show rq1 = 2 from ti_eq (h196.trans kz_2.symm)]
                        have hlk197 := kz_2
                        have hdue : v179.toInt = 4 := by rw [ev179, h196]; decide +kernel
                        refine pe_aload_n (j := 0) (by decide +kernel) rfl ?_
                        refine pe_iload_n (j := 2) (by decide +kernel) rfl ?_
                        refine pe_iload_n (j := 3) (by decide +kernel) rfl ?_
                        refine pz_callV (j := 95) (mj := 49) (by decide +kernel) (cll_V (args := [.int y169, .int 2]) (n := 2) (by decide +kernel) rfl rfl cd_o23 (by decide +kernel) (Nat.le_of_ble_eq_true rfl) (Nat.le_of_ble_eq_true rfl)) (CM_49_2 hX hIq182) (fun q198a q198b q198c q198d hqq198 => ?_)
                        obtain ⟨f199, A200, eq198, hIq198, hGq198, hFq198, kq198⟩ := hqq198
                        cases eq198
                        refine ⟨rfl, rfl, ?_⟩
                        show pmE pg X pg_tyl pg_cl (d + 7) 29 143 [.ref 23, .int 0, .int 2, .int y169, .int y170] [] (cd f199 A200 R wr) _
                        refine pe_iconstv (n := 1) (v := 1) (by decide +kernel) (by decide +kernel) ?_
                        exact pe_iret (by decide +kernel) rfl rfl ⟨f199, A200, 1, rfl, hIq198, (fun k n373 n374 n375 n376 n377 n378 n379 n384 n385 n386 n464 => ((hGq198 k n464)).trans (((hGq182 k n373 n374 n375 n376)).trans (((hGf167 k n373 n374 n375 n376 n378 n379)).trans (((hGq165 k n373 n374 n375 n376)).trans ((upf_fr ef164 n379).trans (upf_fr ef163 n378)))))), (fun k n25 n26 n27 n28 n30 n31 => ((hFq198 k n30)).trans ((hFA168 k n31))), Or.inr (⟨rfl, trivial⟩)⟩
                      · skip
                        by_cases h201 : rq1.toInt = 3
                        · skip
                          rw [show rq1 = 3 from ti_eq (h201.trans kz_3.symm)]
                          have hlk202 := kz_3
                          have hdue : v179.toInt = 1 := by rw [ev179, h201]; decide +kernel
                          refine pe_aload_n (j := 0) (by decide +kernel) rfl ?_
                          refine pe_iload_n (j := 2) (by decide +kernel) rfl ?_
                          refine pe_iload_n (j := 3) (by decide +kernel) rfl ?_
                          refine pz_callV (j := 95) (mj := 49) (by decide +kernel) (cll_V (args := [.int y169, .int 3]) (n := 2) (by decide +kernel) rfl rfl cd_o23 (by decide +kernel) (Nat.le_of_ble_eq_true rfl) (Nat.le_of_ble_eq_true rfl)) (CM_49_3 hX hIq182) (fun q203a q203b q203c q203d hqq203 => ?_)
                          obtain ⟨f204, A205, eq203, hIq203, hGq203, hFq203, kq203⟩ := hqq203
                          cases eq203
                          refine ⟨rfl, rfl, ?_⟩
                          show pmE pg X pg_tyl pg_cl (d + 7) 29 143 [.ref 23, .int 0, .int 3, .int y169, .int y170] [] (cd f204 A205 R wr) _
                          refine pe_iconstv (n := 1) (v := 1) (by decide +kernel) (by decide +kernel) ?_
                          exact pe_iret (by decide +kernel) rfl rfl ⟨f204, A205, 1, rfl, hIq203, (fun k n373 n374 n375 n376 n377 n378 n379 n384 n385 n386 n464 => ((hGq203 k n464)).trans (((hGq182 k n373 n374 n375 n376)).trans (((hGf167 k n373 n374 n375 n376 n378 n379)).trans (((hGq165 k n373 n374 n375 n376)).trans ((upf_fr ef164 n379).trans (upf_fr ef163 n378)))))), (fun k n25 n26 n27 n28 n30 n31 => ((hFq203 k n30)).trans ((hFA168 k n31))), Or.inr (⟨rfl, trivial⟩)⟩
                        · skip
                          by_cases h206 : rq1.toInt = 4
                          · skip
                            rw [show rq1 = 4 from ti_eq (h206.trans kz_4.symm)]
                            have hlk207 := kz_4
                            have hdue : v179.toInt = 1 := by rw [ev179, h206]; decide +kernel
                            refine pe_aload_n (j := 0) (by decide +kernel) rfl ?_
                            refine pe_iload_n (j := 2) (by decide +kernel) rfl ?_
                            refine pe_iload_n (j := 3) (by decide +kernel) rfl ?_
                            refine pz_callV (j := 95) (mj := 49) (by decide +kernel) (cll_V (args := [.int y169, .int 4]) (n := 2) (by decide +kernel) rfl rfl cd_o23 (by decide +kernel) (Nat.le_of_ble_eq_true rfl) (Nat.le_of_ble_eq_true rfl)) (CM_49_4 hX hIq182) (fun q208a q208b q208c q208d hqq208 => ?_)
                            obtain ⟨f209, A210, eq208, hIq208, hGq208, hFq208, kq208⟩ := hqq208
                            cases eq208
                            refine ⟨rfl, rfl, ?_⟩
                            show pmE pg X pg_tyl pg_cl (d + 7) 29 143 [.ref 23, .int 0, .int 4, .int y169, .int y170] [] (cd f209 A210 R wr) _
                            refine pe_iconstv (n := 1) (v := 1) (by decide +kernel) (by decide +kernel) ?_
                            exact pe_iret (by decide +kernel) rfl rfl ⟨f209, A210, 1, rfl, hIq208, (fun k n373 n374 n375 n376 n377 n378 n379 n384 n385 n386 n464 => ((hGq208 k n464)).trans (((hGq182 k n373 n374 n375 n376)).trans (((hGf167 k n373 n374 n375 n376 n378 n379)).trans (((hGq165 k n373 n374 n375 n376)).trans ((upf_fr ef164 n379).trans (upf_fr ef163 n378)))))), (fun k n25 n26 n27 n28 n30 n31 => ((hFq208 k n30)).trans ((hFA168 k n31))), Or.inr (⟨rfl, trivial⟩)⟩
                          · skip
                            by_cases h211 : rq1.toInt = 5
                            · skip
                              rw [show rq1 = 5 from ti_eq (h211.trans kz_5.symm)]
                              have hlk212 := kz_5
                              have hdue : v179.toInt = 0 := by rw [ev179, h211]; decide +kernel
                              refine pe_aload_n (j := 0) (by decide +kernel) rfl ?_
                              refine pe_iload_n (j := 2) (by decide +kernel) rfl ?_
                              refine pe_iload_n (j := 3) (by decide +kernel) rfl ?_
                              refine pz_callV (j := 95) (mj := 49) (by decide +kernel) (cll_V (args := [.int y169, .int 5]) (n := 2) (by decide +kernel) rfl rfl cd_o23 (by decide +kernel) (Nat.le_of_ble_eq_true rfl) (Nat.le_of_ble_eq_true rfl)) (CM_49_5 hX hIq182) (fun q213a q213b q213c q213d hqq213 => ?_)
                              obtain ⟨f214, A215, eq213, hIq213, hGq213, hFq213, kq213⟩ := hqq213
                              cases eq213
                              refine ⟨rfl, rfl, ?_⟩
                              show pmE pg X pg_tyl pg_cl (d + 7) 29 143 [.ref 23, .int 0, .int 5, .int y169, .int y170] [] (cd f214 A215 R wr) _
                              refine pe_iconstv (n := 1) (v := 1) (by decide +kernel) (by decide +kernel) ?_
                              exact pe_iret (by decide +kernel) rfl rfl ⟨f214, A215, 1, rfl, hIq213, (fun k n373 n374 n375 n376 n377 n378 n379 n384 n385 n386 n464 => ((hGq213 k n464)).trans (((hGq182 k n373 n374 n375 n376)).trans (((hGf167 k n373 n374 n375 n376 n378 n379)).trans (((hGq165 k n373 n374 n375 n376)).trans ((upf_fr ef164 n379).trans (upf_fr ef163 n378)))))), (fun k n25 n26 n27 n28 n30 n31 => ((hFq213 k n30)).trans ((hFA168 k n31))), Or.inr (⟨rfl, trivial⟩)⟩
                            · skip
                              exfalso; omega
              · skip
                refine pe_iconstv (n := 0) (v := 0) (by decide +kernel) (by decide +kernel) ?_
                exact pe_iret (by decide +kernel) rfl rfl ⟨f167, A168, 0, rfl, hIy171, (fun k n373 n374 n375 n376 n377 n378 n379 n384 n385 n386 n464 => ((hGf167 k n373 n374 n375 n376 n378 n379)).trans (((hGq165 k n373 n374 n375 n376)).trans ((upf_fr ef164 n379).trans (upf_fr ef163 n378)))), (fun k n25 n26 n27 n28 n30 n31 => (hFA168 k n31)), Or.inl ⟨rfl, trivial⟩⟩
    · skip
      refine pe_aload_n (j := 0) (by decide +kernel) rfl ?_
      refine pe_get (j := 12) (ci := 4) (n := 0) (by decide +kernel) (by decide +kernel) cd_o23 rfl ?_
      refine pe_get (j := 98) (ci := 9) (n := 2) (by decide +kernel) (by decide +kernel) cd_o24 rfl ?_
      have hr_f_386 := cf_386 hI
      refine pe_bipushv (n := 7) (v := 7) (by decide +kernel) (by decide +kernel) ?_
      refine pz_icmp_lt (off := 7) (t := 22) (by decide +kernel) (by decide) rfl rfl kz_7 (fun h216 => ?_) (fun h216 => ?_)
      · skip
        refine pe_iconstv (n := 0) (v := 0) (by decide +kernel) (by decide +kernel) ?_
        refine pe_iret (by decide +kernel) rfl rfl ⟨rfl, rfl, ?_⟩
        show pmE pg X pg_tyl pg_cl (d + 7) 29 18 [.ref 23, .int 0, .int rq1, pm_dead, pm_dead] [.int 0] (cd f A R wr) _
        refine pz_if_eq (off := 12) (t := 30) (by decide +kernel) (by decide) rfl kz_0 (fun h217 => ?_) (fun h217 => by omega)
        refine pe_aload_n (j := 0) (by decide +kernel) rfl ?_
        refine pz_callV (j := 59) (mj := 23) (by decide +kernel) (cll_V (args := []) (n := 0) (by decide +kernel) rfl rfl cd_o23 (by decide +kernel) (Nat.le_of_ble_eq_true rfl) (Nat.le_of_ble_eq_true rfl)) (CM_23 hX hI (hR4)) (fun q218a q218b q218c q218d hqq218 => ?_)
        obtain ⟨f219, eq218, hIq218, hGq218, kq218⟩ := hqq218
        cases eq218
        refine ⟨rfl, rfl, ?_⟩
        show pmE pg X pg_tyl pg_cl (d + 7) 29 34 [.ref 23, .int 0, .int rq1, pm_dead, pm_dead] [] (cd f219 A R wr) _
        refine pe_iconstv (n := 0) (v := 0) (by decide +kernel) (by decide +kernel) ?_
        refine pe_istore_n (j := 3) (ls' := [.ref 23, .int 0, .int rq1, .int 0, pm_dead]) (by decide +kernel) (Nat.le_of_ble_eq_true rfl) rfl ?_
        refine pe_iconstv (n := 0) (v := 0) (by decide +kernel) (by decide +kernel) ?_
        refine pe_istore (j := 4) (ls' := [.ref 23, .int 0, .int rq1, .int 0, .int 0]) (by decide +kernel) (Nat.le_of_ble_eq_true rfl) rfl ?_
        have hl230 := kz_0
        have hl231 := kz_0
        refine CL_29_39 hX (hR4) (by omega) (fun f220 A221 y222 y223 hIy224 hGf220 hFA221 gy222 gy223 hx225 hp226 => ?_) (fun f227 A228 hIy229 hGf227 hFA228 => ⟨f227, A228, 0, rfl, hIy229, (fun k n373 n374 n375 n376 n377 n378 n379 n384 n385 n386 n464 => ((hGf227 k n373 n374 n375 n376 n378 n379)).trans ((hGq218 k n373 n374 n375 n376))), (fun k n25 n26 n27 n28 n30 n31 => (hFA228 k n31)), Or.inl ⟨rfl, trivial⟩⟩) 601 f219 A 0 0 hIq218 (fun k _ _ _ _ _ _ => rfl) (fun k _ => rfl) (by decide +kernel) (by decide +kernel) (by omega) (fun _ i h1 h2 _ => absurd h2 (by rw [kz_0]; omega)) (by decide +kernel)
        refine pe_iload_n (j := 3) (by decide +kernel) rfl ?_
        refine pe_getstatic (j := 86) (v := .retAddr 1) (by decide +kernel) (by decide +kernel) ?_
        refine pe_iload_n (j := 2) (by decide +kernel) rfl ?_
        refine pz_ialdX (n := 13) (by decide +kernel) (hX 1 (by decide +kernel)) rfl rfl (by omega) (by omega) (fun v232 ev232 => ?_)
        have rv232 : 0 ≤ v232.toInt ∧ v232.toInt ≤ 4 := by rw [ev232]; exact lt_all (by decide +kernel) (by decide) _
        refine pz_icmp_lt (off := 11) (t := 124) (by decide +kernel) (by decide) rfl rfl rfl (fun h233 => ?_) (fun h233 => ?_)
        · skip
          refine pe_iconstv (n := 0) (v := 0) (by decide +kernel) (by decide +kernel) ?_
          exact pe_iret (by decide +kernel) rfl rfl ⟨f220, A221, 0, rfl, hIy224, (fun k n373 n374 n375 n376 n377 n378 n379 n384 n385 n386 n464 => ((hGf220 k n373 n374 n375 n376 n378 n379)).trans ((hGq218 k n373 n374 n375 n376))), (fun k n25 n26 n27 n28 n30 n31 => (hFA221 k n31)), Or.inl ⟨rfl, trivial⟩⟩
        · skip
          refine pe_aload_n (j := 0) (by decide +kernel) rfl ?_
          refine pe_get (j := 62) (ci := 4) (n := 6) (by decide +kernel) (by decide +kernel) cd_o23 rfl ?_
          have hr_f220_374 := cf_374 hIy224
          refine pe_iconstv (n := 3) (v := 3) (by decide +kernel) (by decide +kernel) ?_
          refine pz_icmp_eq (off := 5) (t := 126) (by decide +kernel) (by decide) rfl rfl kz_3 (fun h234 => ?_) (fun h234 => ?_)
          · skip
            refine pe_aload_n (j := 0) (by decide +kernel) rfl ?_
            refine pz_callV (j := 59) (mj := 23) (by decide +kernel) (cll_V (args := []) (n := 0) (by decide +kernel) rfl rfl cd_o23 (by decide +kernel) (Nat.le_of_ble_eq_true rfl) (Nat.le_of_ble_eq_true rfl)) (CM_23 hX hIy224 (hR4)) (fun q235a q235b q235c q235d hqq235 => ?_)
            obtain ⟨f236, eq235, hIq235, hGq235, kq235⟩ := hqq235
            cases eq235
            refine ⟨rfl, rfl, ?_⟩
            show pmE pg X pg_tyl pg_cl (d + 7) 29 130 [.ref 23, .int 0, .int rq1, .int y222, .int y223] [] (cd f236 A221 R wr) _
            refine pe_aload_n (j := 0) (by decide +kernel) rfl ?_
            refine pe_get (j := 53) (ci := 4) (n := 10) (by decide +kernel) (by decide +kernel) cd_o23 rfl ?_
            refine pe_top (v := (f220 378)) ((hGq235 378 (by decide) (by decide) (by decide) (by decide))) ?_
            have lw238 := zi_lo (f220 378)
            have uw238 := zi_hi (f220 378)
            refine pz_if_ne (off := 9) (t := 143) (by decide +kernel) (by decide) rfl rfl (fun h237 => ?_) (fun h237 => ?_)
            · skip
              refine pe_iconstv (n := 1) (v := 1) (by decide +kernel) (by decide +kernel) ?_
              exact pe_iret (by decide +kernel) rfl rfl ⟨f236, A221, 1, rfl, hIq235, (fun k n373 n374 n375 n376 n377 n378 n379 n384 n385 n386 n464 => ((hGq235 k n373 n374 n375 n376)).trans (((hGf220 k n373 n374 n375 n376 n378 n379)).trans ((hGq218 k n373 n374 n375 n376)))), (fun k n25 n26 n27 n28 n30 n31 => (hFA221 k n31)), Or.inr (⟨rfl, trivial⟩)⟩
            · skip
              by_cases h239 : rq1.toInt = 12
              · skip
                rw [show rq1 = 12 from ti_eq (h239.trans kz_12.symm)]
                have hlk240 := kz_12
                have hdue : v232.toInt = 4 := by rw [ev232, h239]; decide +kernel
                have hnb0 : 0 ≤ ((A221 31).getD 0 0).toInt ∧ ((A221 31).getD 0 0).toInt ≤ 8 := by
                  have hb := hp226 (by omega) 0 (by omega) (by omega) (by omega)
                  rw [h239, show lo2 12 0 = 0 by decide +kernel, show hi2 12 0 = 8 by decide +kernel] at hb
                  exact hb
                have hnb1 : 0 ≤ ((A221 31).getD 1 0).toInt ∧ ((A221 31).getD 1 0).toInt ≤ 8 := by
                  have hb := hp226 (by omega) 1 (by omega) (by omega) (by omega)
                  rw [h239, show lo2 12 1 = 0 by decide +kernel, show hi2 12 1 = 8 by decide +kernel] at hb
                  exact hb
                refine pe_aload_n (j := 0) (by decide +kernel) rfl ?_
                refine pe_iload_n (j := 2) (by decide +kernel) rfl ?_
                refine pe_iload_n (j := 3) (by decide +kernel) rfl ?_
                refine pz_callV (j := 95) (mj := 49) (by decide +kernel) (cll_V (args := [.int y222, .int 12]) (n := 2) (by decide +kernel) rfl rfl cd_o23 (by decide +kernel) (Nat.le_of_ble_eq_true rfl) (Nat.le_of_ble_eq_true rfl)) (CM_49_12 hX hIq235 (by omega) (by omega) (by omega) (by omega)) (fun q241a q241b q241c q241d hqq241 => ?_)
                obtain ⟨f242, A243, eq241, hIq241, hGq241, hFq241, kq241⟩ := hqq241
                cases eq241
                refine ⟨rfl, rfl, ?_⟩
                show pmE pg X pg_tyl pg_cl (d + 7) 29 143 [.ref 23, .int 0, .int 12, .int y222, .int y223] [] (cd f242 A243 R wr) _
                refine pe_iconstv (n := 1) (v := 1) (by decide +kernel) (by decide +kernel) ?_
                exact pe_iret (by decide +kernel) rfl rfl ⟨f242, A243, 1, rfl, hIq241, (fun k n373 n374 n375 n376 n377 n378 n379 n384 n385 n386 n464 => ((hGq241 k n377 n386)).trans (((hGq235 k n373 n374 n375 n376)).trans (((hGf220 k n373 n374 n375 n376 n378 n379)).trans ((hGq218 k n373 n374 n375 n376))))), (fun k n25 n26 n27 n28 n30 n31 => ((hFq241 k n28)).trans ((hFA221 k n31))), Or.inr (⟨rfl, trivial⟩)⟩
              · skip
                exfalso; omega
          · skip
            refine pe_iconstv (n := 0) (v := 0) (by decide +kernel) (by decide +kernel) ?_
            exact pe_iret (by decide +kernel) rfl rfl ⟨f220, A221, 0, rfl, hIy224, (fun k n373 n374 n375 n376 n377 n378 n379 n384 n385 n386 n464 => ((hGf220 k n373 n374 n375 n376 n378 n379)).trans ((hGq218 k n373 n374 n375 n376))), (fun k n25 n26 n27 n28 n30 n31 => (hFA221 k n31)), Or.inl ⟨rfl, trivial⟩⟩
      · skip
        refine pe_iconstv (n := 1) (v := 1) (by decide +kernel) (by decide +kernel) ?_
        refine pe_goto (off := 4) (t := 23) (by decide +kernel) (by decide) rfl ?_
        refine pe_iret (by decide +kernel) rfl rfl ⟨rfl, rfl, ?_⟩
        show pmE pg X pg_tyl pg_cl (d + 7) 29 18 [.ref 23, .int 0, .int rq1, pm_dead, pm_dead] [.int 1] (cd f A R wr) _
        refine pz_if_eq (off := 12) (t := 30) (by decide +kernel) (by decide) rfl kz_1 (fun h244 => by omega) (fun h244 => ?_)
        refine pe_aload_n (j := 0) (by decide +kernel) rfl ?_
        refine pe_iconstv (n := 3) (v := 3) (by decide +kernel) (by decide +kernel) ?_
        refine pe_aload_n (j := 0) (by decide +kernel) rfl ?_
        refine pe_get (j := 69) (ci := 4) (n := 7) (by decide +kernel) (by decide +kernel) cd_o23 rfl ?_
        have hr_f_375 := cf_375 hI
        refine pi_V (j := 75) (mj := 46) (by decide +kernel) (cll_V (args := [.int (f 375), .int 3]) (n := 2) (by decide +kernel) rfl rfl cd_o23 (by decide +kernel) (Nat.le_of_ble_eq_true rfl) (Nat.le_of_ble_eq_true rfl)) ?_
        show pmE pg X pg_tyl pg_cl (d + 6) 46 0 [.ref 23, .int 3, .int (f 375)] [] (cd f A R wr) _
        refine pe_aload_n (j := 0) (by decide +kernel) rfl ?_
        refine pe_get (j := 53) (ci := 4) (n := 10) (by decide +kernel) (by decide +kernel) cd_o23 rfl ?_
        have lw246 := zi_lo (f 378)
        have uw246 := zi_hi (f 378)
        refine pz_if_ne (off := 13) (t := 17) (by decide +kernel) (by decide) rfl rfl (fun h245 => ?_) (fun h245 => ?_)
        · skip
          refine pe_vret (by decide +kernel) rfl ⟨rfl, rfl, ?_⟩
          show pmE pg X pg_tyl pg_cl (d + 7) 29 30 [.ref 23, .int 0, .int rq1, pm_dead, pm_dead] [] (cd f A R wr) _
          refine pe_aload_n (j := 0) (by decide +kernel) rfl ?_
          refine pz_callV (j := 59) (mj := 23) (by decide +kernel) (cll_V (args := []) (n := 0) (by decide +kernel) rfl rfl cd_o23 (by decide +kernel) (Nat.le_of_ble_eq_true rfl) (Nat.le_of_ble_eq_true rfl)) (CM_23 hX hI (hR4)) (fun q247a q247b q247c q247d hqq247 => ?_)
          obtain ⟨f248, eq247, hIq247, hGq247, kq247⟩ := hqq247
          cases eq247
          refine ⟨rfl, rfl, ?_⟩
          show pmE pg X pg_tyl pg_cl (d + 7) 29 34 [.ref 23, .int 0, .int rq1, pm_dead, pm_dead] [] (cd f248 A R wr) _
          refine pe_iconstv (n := 0) (v := 0) (by decide +kernel) (by decide +kernel) ?_
          refine pe_istore_n (j := 3) (ls' := [.ref 23, .int 0, .int rq1, .int 0, pm_dead]) (by decide +kernel) (Nat.le_of_ble_eq_true rfl) rfl ?_
          refine pe_iconstv (n := 0) (v := 0) (by decide +kernel) (by decide +kernel) ?_
          refine pe_istore (j := 4) (ls' := [.ref 23, .int 0, .int rq1, .int 0, .int 0]) (by decide +kernel) (Nat.le_of_ble_eq_true rfl) rfl ?_
          have hl259 := kz_0
          have hl260 := kz_0
          refine CL_29_39 hX (hR4) (by omega) (fun f249 A250 y251 y252 hIy253 hGf249 hFA250 gy251 gy252 hx254 hp255 => ?_) (fun f256 A257 hIy258 hGf256 hFA257 => ⟨f256, A257, 0, rfl, hIy258, (fun k n373 n374 n375 n376 n377 n378 n379 n384 n385 n386 n464 => ((hGf256 k n373 n374 n375 n376 n378 n379)).trans ((hGq247 k n373 n374 n375 n376))), (fun k n25 n26 n27 n28 n30 n31 => (hFA257 k n31)), Or.inl ⟨rfl, trivial⟩⟩) 601 f248 A 0 0 hIq247 (fun k _ _ _ _ _ _ => rfl) (fun k _ => rfl) (by decide +kernel) (by decide +kernel) (by omega) (fun _ i h1 h2 _ => absurd h2 (by rw [kz_0]; omega)) (by decide +kernel)
          refine pe_iload_n (j := 3) (by decide +kernel) rfl ?_
          refine pe_getstatic (j := 86) (v := .retAddr 1) (by decide +kernel) (by decide +kernel) ?_
          refine pe_iload_n (j := 2) (by decide +kernel) rfl ?_
          refine pz_ialdX (n := 13) (by decide +kernel) (hX 1 (by decide +kernel)) rfl rfl (by omega) (by omega) (fun v261 ev261 => ?_)
          have rv261 : 0 ≤ v261.toInt ∧ v261.toInt ≤ 4 := by rw [ev261]; exact lt_all (by decide +kernel) (by decide) _
          refine pz_icmp_lt (off := 11) (t := 124) (by decide +kernel) (by decide) rfl rfl rfl (fun h262 => ?_) (fun h262 => ?_)
          · skip
            refine pe_iconstv (n := 0) (v := 0) (by decide +kernel) (by decide +kernel) ?_
            exact pe_iret (by decide +kernel) rfl rfl ⟨f249, A250, 0, rfl, hIy253, (fun k n373 n374 n375 n376 n377 n378 n379 n384 n385 n386 n464 => ((hGf249 k n373 n374 n375 n376 n378 n379)).trans ((hGq247 k n373 n374 n375 n376))), (fun k n25 n26 n27 n28 n30 n31 => (hFA250 k n31)), Or.inl ⟨rfl, trivial⟩⟩
          · skip
            refine pe_aload_n (j := 0) (by decide +kernel) rfl ?_
            refine pe_get (j := 62) (ci := 4) (n := 6) (by decide +kernel) (by decide +kernel) cd_o23 rfl ?_
            have hr_f249_374 := cf_374 hIy253
            refine pe_iconstv (n := 3) (v := 3) (by decide +kernel) (by decide +kernel) ?_
            refine pz_icmp_eq (off := 5) (t := 126) (by decide +kernel) (by decide) rfl rfl kz_3 (fun h263 => ?_) (fun h263 => ?_)
            · skip
              refine pe_aload_n (j := 0) (by decide +kernel) rfl ?_
              refine pz_callV (j := 59) (mj := 23) (by decide +kernel) (cll_V (args := []) (n := 0) (by decide +kernel) rfl rfl cd_o23 (by decide +kernel) (Nat.le_of_ble_eq_true rfl) (Nat.le_of_ble_eq_true rfl)) (CM_23 hX hIy253 (hR4)) (fun q264a q264b q264c q264d hqq264 => ?_)
              obtain ⟨f265, eq264, hIq264, hGq264, kq264⟩ := hqq264
              cases eq264
              refine ⟨rfl, rfl, ?_⟩
              show pmE pg X pg_tyl pg_cl (d + 7) 29 130 [.ref 23, .int 0, .int rq1, .int y251, .int y252] [] (cd f265 A250 R wr) _
              refine pe_aload_n (j := 0) (by decide +kernel) rfl ?_
              refine pe_get (j := 53) (ci := 4) (n := 10) (by decide +kernel) (by decide +kernel) cd_o23 rfl ?_
              refine pe_top (v := (f249 378)) ((hGq264 378 (by decide) (by decide) (by decide) (by decide))) ?_
              have lw267 := zi_lo (f249 378)
              have uw267 := zi_hi (f249 378)
              refine pz_if_ne (off := 9) (t := 143) (by decide +kernel) (by decide) rfl rfl (fun h266 => ?_) (fun h266 => ?_)
              · skip
                refine pe_iconstv (n := 1) (v := 1) (by decide +kernel) (by decide +kernel) ?_
                exact pe_iret (by decide +kernel) rfl rfl ⟨f265, A250, 1, rfl, hIq264, (fun k n373 n374 n375 n376 n377 n378 n379 n384 n385 n386 n464 => ((hGq264 k n373 n374 n375 n376)).trans (((hGf249 k n373 n374 n375 n376 n378 n379)).trans ((hGq247 k n373 n374 n375 n376)))), (fun k n25 n26 n27 n28 n30 n31 => (hFA250 k n31)), Or.inr (⟨rfl, trivial⟩)⟩
              · skip
                by_cases h268 : rq1.toInt = 12
                · skip
                  rw [show rq1 = 12 from ti_eq (h268.trans kz_12.symm)]
                  have hlk269 := kz_12
                  have hdue : v261.toInt = 4 := by rw [ev261, h268]; decide +kernel
                  have hnb0 : 0 ≤ ((A250 31).getD 0 0).toInt ∧ ((A250 31).getD 0 0).toInt ≤ 8 := by
                    have hb := hp255 (by omega) 0 (by omega) (by omega) (by omega)
                    rw [h268, show lo2 12 0 = 0 by decide +kernel, show hi2 12 0 = 8 by decide +kernel] at hb
                    exact hb
                  have hnb1 : 0 ≤ ((A250 31).getD 1 0).toInt ∧ ((A250 31).getD 1 0).toInt ≤ 8 := by
                    have hb := hp255 (by omega) 1 (by omega) (by omega) (by omega)
                    rw [h268, show lo2 12 1 = 0 by decide +kernel, show hi2 12 1 = 8 by decide +kernel] at hb
                    exact hb
                  refine pe_aload_n (j := 0) (by decide +kernel) rfl ?_
                  refine pe_iload_n (j := 2) (by decide +kernel) rfl ?_
                  refine pe_iload_n (j := 3) (by decide +kernel) rfl ?_
                  refine pz_callV (j := 95) (mj := 49) (by decide +kernel) (cll_V (args := [.int y251, .int 12]) (n := 2) (by decide +kernel) rfl rfl cd_o23 (by decide +kernel) (Nat.le_of_ble_eq_true rfl) (Nat.le_of_ble_eq_true rfl)) (CM_49_12 hX hIq264 (by omega) (by omega) (by omega) (by omega)) (fun q270a q270b q270c q270d hqq270 => ?_)
                  obtain ⟨f271, A272, eq270, hIq270, hGq270, hFq270, kq270⟩ := hqq270
                  cases eq270
                  refine ⟨rfl, rfl, ?_⟩
                  show pmE pg X pg_tyl pg_cl (d + 7) 29 143 [.ref 23, .int 0, .int 12, .int y251, .int y252] [] (cd f271 A272 R wr) _
                  refine pe_iconstv (n := 1) (v := 1) (by decide +kernel) (by decide +kernel) ?_
                  exact pe_iret (by decide +kernel) rfl rfl ⟨f271, A272, 1, rfl, hIq270, (fun k n373 n374 n375 n376 n377 n378 n379 n384 n385 n386 n464 => ((hGq270 k n377 n386)).trans (((hGq264 k n373 n374 n375 n376)).trans (((hGf249 k n373 n374 n375 n376 n378 n379)).trans ((hGq247 k n373 n374 n375 n376))))), (fun k n25 n26 n27 n28 n30 n31 => ((hFq270 k n28)).trans ((hFA250 k n31))), Or.inr (⟨rfl, trivial⟩)⟩
                · skip
                  exfalso; omega
            · skip
              refine pe_iconstv (n := 0) (v := 0) (by decide +kernel) (by decide +kernel) ?_
              exact pe_iret (by decide +kernel) rfl rfl ⟨f249, A250, 0, rfl, hIy253, (fun k n373 n374 n375 n376 n377 n378 n379 n384 n385 n386 n464 => ((hGf249 k n373 n374 n375 n376 n378 n379)).trans ((hGq247 k n373 n374 n375 n376))), (fun k n25 n26 n27 n28 n30 n31 => (hFA250 k n31)), Or.inl ⟨rfl, trivial⟩⟩
        · skip
          refine pe_aload_n (j := 0) (by decide +kernel) rfl ?_
          refine pe_iload_n (j := 1) (by decide +kernel) rfl ?_
          refine cz_put378 (jj := 53) (by decide +kernel) (by decide +kernel) hI (fun f273 ef273 hIf273 => ?_)
          refine pe_aload_n (j := 0) (by decide +kernel) rfl ?_
          refine pe_iload_n (j := 2) (by decide +kernel) rfl ?_
          refine cz_put379 (jj := 56) (by decide +kernel) (by decide +kernel) hIf273 (fun f274 ef274 hIf274 => ?_)
          refine pe_vret (by decide +kernel) rfl ⟨rfl, rfl, ?_⟩
          show pmE pg X pg_tyl pg_cl (d + 7) 29 30 [.ref 23, .int 0, .int rq1, pm_dead, pm_dead] [] (cd f274 A R wr) _
          refine pe_aload_n (j := 0) (by decide +kernel) rfl ?_
          refine pz_callV (j := 59) (mj := 23) (by decide +kernel) (cll_V (args := []) (n := 0) (by decide +kernel) rfl rfl cd_o23 (by decide +kernel) (Nat.le_of_ble_eq_true rfl) (Nat.le_of_ble_eq_true rfl)) (CM_23 hX hIf274 (hR4)) (fun q275a q275b q275c q275d hqq275 => ?_)
          obtain ⟨f276, eq275, hIq275, hGq275, kq275⟩ := hqq275
          cases eq275
          refine ⟨rfl, rfl, ?_⟩
          show pmE pg X pg_tyl pg_cl (d + 7) 29 34 [.ref 23, .int 0, .int rq1, pm_dead, pm_dead] [] (cd f276 A R wr) _
          refine pe_iconstv (n := 0) (v := 0) (by decide +kernel) (by decide +kernel) ?_
          refine pe_istore_n (j := 3) (ls' := [.ref 23, .int 0, .int rq1, .int 0, pm_dead]) (by decide +kernel) (Nat.le_of_ble_eq_true rfl) rfl ?_
          refine pe_iconstv (n := 0) (v := 0) (by decide +kernel) (by decide +kernel) ?_
          refine pe_istore (j := 4) (ls' := [.ref 23, .int 0, .int rq1, .int 0, .int 0]) (by decide +kernel) (Nat.le_of_ble_eq_true rfl) rfl ?_
          have hl287 := kz_0
          have hl288 := kz_0
          refine CL_29_39 hX (hR4) (by omega) (fun f277 A278 y279 y280 hIy281 hGf277 hFA278 gy279 gy280 hx282 hp283 => ?_) (fun f284 A285 hIy286 hGf284 hFA285 => ⟨f284, A285, 0, rfl, hIy286, (fun k n373 n374 n375 n376 n377 n378 n379 n384 n385 n386 n464 => ((hGf284 k n373 n374 n375 n376 n378 n379)).trans (((hGq275 k n373 n374 n375 n376)).trans ((upf_fr ef274 n379).trans (upf_fr ef273 n378)))), (fun k n25 n26 n27 n28 n30 n31 => (hFA285 k n31)), Or.inl ⟨rfl, trivial⟩⟩) 601 f276 A 0 0 hIq275 (fun k _ _ _ _ _ _ => rfl) (fun k _ => rfl) (by decide +kernel) (by decide +kernel) (by omega) (fun _ i h1 h2 _ => absurd h2 (by rw [kz_0]; omega)) (by decide +kernel)
          refine pe_iload_n (j := 3) (by decide +kernel) rfl ?_
          refine pe_getstatic (j := 86) (v := .retAddr 1) (by decide +kernel) (by decide +kernel) ?_
          refine pe_iload_n (j := 2) (by decide +kernel) rfl ?_
          refine pz_ialdX (n := 13) (by decide +kernel) (hX 1 (by decide +kernel)) rfl rfl (by omega) (by omega) (fun v289 ev289 => ?_)
          have rv289 : 0 ≤ v289.toInt ∧ v289.toInt ≤ 4 := by rw [ev289]; exact lt_all (by decide +kernel) (by decide) _
          refine pz_icmp_lt (off := 11) (t := 124) (by decide +kernel) (by decide) rfl rfl rfl (fun h290 => ?_) (fun h290 => ?_)
          · skip
            refine pe_iconstv (n := 0) (v := 0) (by decide +kernel) (by decide +kernel) ?_
            exact pe_iret (by decide +kernel) rfl rfl ⟨f277, A278, 0, rfl, hIy281, (fun k n373 n374 n375 n376 n377 n378 n379 n384 n385 n386 n464 => ((hGf277 k n373 n374 n375 n376 n378 n379)).trans (((hGq275 k n373 n374 n375 n376)).trans ((upf_fr ef274 n379).trans (upf_fr ef273 n378)))), (fun k n25 n26 n27 n28 n30 n31 => (hFA278 k n31)), Or.inl ⟨rfl, trivial⟩⟩
          · skip
            refine pe_aload_n (j := 0) (by decide +kernel) rfl ?_
            refine pe_get (j := 62) (ci := 4) (n := 6) (by decide +kernel) (by decide +kernel) cd_o23 rfl ?_
            have hr_f277_374 := cf_374 hIy281
            refine pe_iconstv (n := 3) (v := 3) (by decide +kernel) (by decide +kernel) ?_
            refine pz_icmp_eq (off := 5) (t := 126) (by decide +kernel) (by decide) rfl rfl kz_3 (fun h291 => ?_) (fun h291 => ?_)
            · skip
              refine pe_aload_n (j := 0) (by decide +kernel) rfl ?_
              refine pz_callV (j := 59) (mj := 23) (by decide +kernel) (cll_V (args := []) (n := 0) (by decide +kernel) rfl rfl cd_o23 (by decide +kernel) (Nat.le_of_ble_eq_true rfl) (Nat.le_of_ble_eq_true rfl)) (CM_23 hX hIy281 (hR4)) (fun q292a q292b q292c q292d hqq292 => ?_)
              obtain ⟨f293, eq292, hIq292, hGq292, kq292⟩ := hqq292
              cases eq292
              refine ⟨rfl, rfl, ?_⟩
              show pmE pg X pg_tyl pg_cl (d + 7) 29 130 [.ref 23, .int 0, .int rq1, .int y279, .int y280] [] (cd f293 A278 R wr) _
              refine pe_aload_n (j := 0) (by decide +kernel) rfl ?_
              refine pe_get (j := 53) (ci := 4) (n := 10) (by decide +kernel) (by decide +kernel) cd_o23 rfl ?_
              refine pe_top (v := (f277 378)) ((hGq292 378 (by decide) (by decide) (by decide) (by decide))) ?_
              have lw295 := zi_lo (f277 378)
              have uw295 := zi_hi (f277 378)
              refine pz_if_ne (off := 9) (t := 143) (by decide +kernel) (by decide) rfl rfl (fun h294 => ?_) (fun h294 => ?_)
              · skip
                refine pe_iconstv (n := 1) (v := 1) (by decide +kernel) (by decide +kernel) ?_
                exact pe_iret (by decide +kernel) rfl rfl ⟨f293, A278, 1, rfl, hIq292, (fun k n373 n374 n375 n376 n377 n378 n379 n384 n385 n386 n464 => ((hGq292 k n373 n374 n375 n376)).trans (((hGf277 k n373 n374 n375 n376 n378 n379)).trans (((hGq275 k n373 n374 n375 n376)).trans ((upf_fr ef274 n379).trans (upf_fr ef273 n378))))), (fun k n25 n26 n27 n28 n30 n31 => (hFA278 k n31)), Or.inr (⟨rfl, trivial⟩)⟩
              · skip
                by_cases h296 : rq1.toInt = 12
                · skip
                  rw [show rq1 = 12 from ti_eq (h296.trans kz_12.symm)]
                  have hlk297 := kz_12
                  have hdue : v289.toInt = 4 := by rw [ev289, h296]; decide +kernel
                  have hnb0 : 0 ≤ ((A278 31).getD 0 0).toInt ∧ ((A278 31).getD 0 0).toInt ≤ 8 := by
                    have hb := hp283 (by omega) 0 (by omega) (by omega) (by omega)
                    rw [h296, show lo2 12 0 = 0 by decide +kernel, show hi2 12 0 = 8 by decide +kernel] at hb
                    exact hb
                  have hnb1 : 0 ≤ ((A278 31).getD 1 0).toInt ∧ ((A278 31).getD 1 0).toInt ≤ 8 := by
                    have hb := hp283 (by omega) 1 (by omega) (by omega) (by omega)
                    rw [h296, show lo2 12 1 = 0 by decide +kernel, show hi2 12 1 = 8 by decide +kernel] at hb
                    exact hb
                  refine pe_aload_n (j := 0) (by decide +kernel) rfl ?_
                  refine pe_iload_n (j := 2) (by decide +kernel) rfl ?_
                  refine pe_iload_n (j := 3) (by decide +kernel) rfl ?_
                  refine pz_callV (j := 95) (mj := 49) (by decide +kernel) (cll_V (args := [.int y279, .int 12]) (n := 2) (by decide +kernel) rfl rfl cd_o23 (by decide +kernel) (Nat.le_of_ble_eq_true rfl) (Nat.le_of_ble_eq_true rfl)) (CM_49_12 hX hIq292 (by omega) (by omega) (by omega) (by omega)) (fun q298a q298b q298c q298d hqq298 => ?_)
                  obtain ⟨f299, A300, eq298, hIq298, hGq298, hFq298, kq298⟩ := hqq298
                  cases eq298
                  refine ⟨rfl, rfl, ?_⟩
                  show pmE pg X pg_tyl pg_cl (d + 7) 29 143 [.ref 23, .int 0, .int 12, .int y279, .int y280] [] (cd f299 A300 R wr) _
                  refine pe_iconstv (n := 1) (v := 1) (by decide +kernel) (by decide +kernel) ?_
                  exact pe_iret (by decide +kernel) rfl rfl ⟨f299, A300, 1, rfl, hIq298, (fun k n373 n374 n375 n376 n377 n378 n379 n384 n385 n386 n464 => ((hGq298 k n377 n386)).trans (((hGq292 k n373 n374 n375 n376)).trans (((hGf277 k n373 n374 n375 n376 n378 n379)).trans (((hGq275 k n373 n374 n375 n376)).trans ((upf_fr ef274 n379).trans (upf_fr ef273 n378)))))), (fun k n25 n26 n27 n28 n30 n31 => ((hFq298 k n28)).trans ((hFA278 k n31))), Or.inr (⟨rfl, trivial⟩)⟩
                · skip
                  exfalso; omega
            · skip
              refine pe_iconstv (n := 0) (v := 0) (by decide +kernel) (by decide +kernel) ?_
              exact pe_iret (by decide +kernel) rfl rfl ⟨f277, A278, 0, rfl, hIy281, (fun k n373 n374 n375 n376 n377 n378 n379 n384 n385 n386 n464 => ((hGf277 k n373 n374 n375 n376 n378 n379)).trans (((hGq275 k n373 n374 n375 n376)).trans ((upf_fr ef274 n379).trans (upf_fr ef273 n378)))), (fun k n25 n26 n27 n28 n30 n31 => (hFA278 k n31)), Or.inl ⟨rfl, trivial⟩⟩
  · skip
    refine pe_iconstv (n := 0) (v := 0) (by decide +kernel) (by decide +kernel) ?_
    exact pe_iret (by decide +kernel) rfl rfl ⟨f, A, 0, rfl, hI, (fun k n373 n374 n375 n376 n377 n378 n379 n384 n385 n386 n464 => rfl), (fun k n25 n26 n27 n28 n30 n31 => rfl), Or.inl ⟨rfl, trivial⟩⟩
