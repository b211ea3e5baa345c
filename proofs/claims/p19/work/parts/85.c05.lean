set_option maxRecDepth 100000 in
set_option maxHeartbeats 8000000 in
theorem CL_81_63 {X : pm_X} {d : Nat} {wr : pm_W} {Q : pm_R → Prop} {f : Nat → Int32} {A0 : Nat → List Int32} {R : Nat → Value} {x2 x3 x4 x5 : Int32} (hX : XO X) (gx2 : (0 ≤ x2.toInt ∧ x2.toInt ≤ 6)) (gx5 : (0 ≤ x5.toInt ∧ x5.toInt ≤ 360)) (he5 : x5.toInt = (10 * (f 530).toInt)) (hk0 : (∀ j : Int, (0) ≤ j → j < (x2.toInt) → 0 ≤ ((A0 41).getD j.toNat 0).toInt ∧ ((A0 41).getD j.toNat 0).toInt ≤ 8)) (k_125_0 : ∀ (A' : Nat → List Int32) (y6 : Int32), CI f A' R → (∀ k : Nat, k ≠ 39 → k ≠ 40 → A' k = A0 k) → (0 ≤ y6.toInt ∧ y6.toInt ≤ 6) → x2.toInt ≤ y6.toInt → ((f 530).toInt + (-36)) ≤ 0 → pmE pg X pg_tyl pg_cl (d + 1) 81 125 [.ref 33, .ref 41, .int x2, .int x3, .int x4, .int x5, .int y6] [] (cd f A' R wr) Q) : ∀ (m : Nat) (A : Nat → List Int32) (x6 : Int32), CI f A R → (∀ k : Nat, k ≠ 39 → k ≠ 40 → A k = A0 k) → (0 ≤ x6.toInt ∧ x6.toInt ≤ 6) → ((f 530).toInt + (-36)) ≤ 0 → 6 - x6.toInt < (m : Int) → pmE pg X pg_tyl pg_cl (d + 1) 81 63 [.ref 33, .ref 41, .int x2, .int x3, .int x4, .int x5, .int x6] [] (cd f A R wr) Q := by
  intro m
  induction m with
  | zero =>
    intro A x6 hI hF gx6 hxi0 hm
    exfalso
    have l0 := zi_lo x6
    have u0 := zi_hi x6
    omega
  | succ m ih =>
    intro A x6 hI hF gx6 hxi0 hm
    have hr_f_530 := cf_530 hI
    refine pe_iload (j := 6) (by decide +kernel) rfl ?_
    refine pe_iload_n (j := 2) (by decide +kernel) rfl ?_
    refine pz_icmp_ge (off := 59) (t := 125) (by decide +kernel) (by decide) rfl rfl rfl (fun h1 => ?_) (fun h1 => ?_)
    · skip
      exact k_125_0 A x6 hI (fun k n39 n40 => (hF k n39 n40)) (by omega) (by omega) (by omega)
    · skip
      refine pe_aload_n (j := 0) (by decide +kernel) rfl ?_
      refine pe_get (j := 22) (ci := 7) (n := 4) (by decide +kernel) (by decide +kernel) cd_o33 rfl ?_
      refine pe_iload (j := 5) (by decide +kernel) rfl ?_
      refine pe_iconstv (n := 4) (v := 4) (by decide +kernel) (by decide +kernel) ?_
      refine pz_add (by decide +kernel) he5 kz_4 (by omega) (by omega) (fun z2 hz2 => ?_)
      refine pe_iload (j := 6) (by decide +kernel) rfl ?_
      refine pz_add (by decide +kernel) hz2 rfl (by omega) (by omega) (fun z3 hz3 => ?_)
      clear hz2
      refine pe_aload_n (j := 1) (by decide +kernel) rfl ?_
      refine pe_iload (j := 6) (by decide +kernel) rfl ?_
      refine pz_iald (by decide +kernel) cd_a41 (cl_41 hI) rfl (by omega) (by omega) (fun v4 ev4 => ?_)
      rw [show A 41 = A0 41 from (hF 41 (by decide) (by decide))] at ev4
      have rq5 := hk0 x6.toInt (by omega) (by omega)
      rw [← ev4] at rq5
      refine cz_st40 (by decide +kernel) hI hz3 (by omega) (by omega) (by simp only [CT]; omega) (fun A6 eA6 hIA6 => ?_)
      refine pe_aload_n (j := 0) (by decide +kernel) rfl ?_
      refine pe_get (j := 18) (ci := 7) (n := 3) (by decide +kernel) (by decide +kernel) cd_o33 rfl ?_
      refine pe_aload_n (j := 1) (by decide +kernel) rfl ?_
      refine pe_iload (j := 6) (by decide +kernel) rfl ?_
      refine pz_iald (by decide +kernel) cd_a41 (cl_41 hIA6) rfl (by omega) (by omega) (fun v7 ev7 => ?_)
      rw [show A6 41 = A0 41 from (upa_fr eA6 (by decide)).trans ((hF 41 (by decide) (by decide)))] at ev7
      rw [ev7.trans ev4.symm]
      clear ev7 v7
      refine pe_aload_n (j := 1) (by decide +kernel) rfl ?_
      refine pe_iload (j := 6) (by decide +kernel) rfl ?_
      refine pe_iconstv (n := 1) (v := 1) (by decide +kernel) (by decide +kernel) ?_
      refine pz_add (by decide +kernel) rfl kz_1 (by omega) (by omega) (fun z8 hz8 => ?_)
      refine pe_iload_n (j := 2) (by decide +kernel) rfl ?_
      refine pz_icmp_ge (off := 10) (t := 109) (by decide +kernel) (by decide) rfl hz8 rfl (fun h9 => ?_) (fun h9 => ?_)
      · skip
        clear hz8
        refine pe_iconstv (n := 0) (v := 0) (by decide +kernel) (by decide +kernel) ?_
        refine pz_iald (by decide +kernel) cd_a41 (cl_41 hIA6) kz_0 (by omega) (by omega) (fun v10 ev10 => ?_)
        rw [show A6 41 = A0 41 from (upa_fr eA6 (by decide)).trans ((hF 41 (by decide) (by decide)))] at ev10
        have rq11 := hk0 0 (by omega) (by omega)
        rw [← ev10] at rq11
        refine pi_S (j := 50) (mj := 52) (by decide +kernel) (by decide +kernel) rfl ?_
        show pmE pg X pg_tyl pg_cl (d) 52 0 [.int v4, .int v10] [] (cd f A6 R wr) _
        refine pe_iload_n (j := 0) (by decide +kernel) rfl ?_
        refine pe_bipushv (n := 9) (v := 9) (by decide +kernel) (by decide +kernel) ?_
        refine pz_mul (by decide +kernel) rfl kz_9 (by omega) (by omega) (fun z12 hz12 => ?_)
        refine pe_iload_n (j := 1) (by decide +kernel) rfl ?_
        refine pz_add (by decide +kernel) hz12 rfl (by omega) (by omega) (fun z13 hz13 => ?_)
        clear hz12
        refine pe_iret (by decide +kernel) rfl rfl ⟨rfl, rfl, ?_⟩
        show pmE pg X pg_tyl pg_cl (d + 1) 81 114 [.ref 33, .ref 41, .int x2, .int x3, .int x4, .int x5, .int x6] [.int z13, .ref 39] (cd f A6 R wr) _
        refine pe_dup2 (by decide +kernel) ⟨rfl, rfl⟩ ?_
        refine pz_iald (by decide +kernel) cd_a39 (cl_39 hIA6) hz13 (by omega) (by omega) (fun v14 ev14 => ?_)
        rw [show A6 39 = A 39 from upa_fr eA6 (by decide)] at ev14
        refine pe_iload_n (j := 3) (by decide +kernel) rfl ?_
        refine pw_add (by decide +kernel) (fun z15 => ?_)
        refine cz_st39 (by decide +kernel) hIA6 hz13 (by omega) (by omega) (fun A16 eA16 hIA16 => ?_)
        refine pz_iinc (j := 6) (n := 1) (by decide +kernel) rfl rfl (by decide +kernel) (by omega) (by omega) (fun z17 hz17 => ?_)
        show pmE pg X pg_tyl pg_cl (d + 1) 81 122 [.ref 33, .ref 41, .int x2, .int x3, .int x4, .int x5, .int z17] [] (cd f A16 R wr) _
        refine pe_goto (off := (-59)) (t := 63) (by decide +kernel) (by decide) rfl ?_
        exact ih A16 z17 hIA16 (fun k n39 n40 => (upa_fr eA16 n39).trans ((upa_fr eA6 n40).trans ((hF k n39 n40)))) (by omega) (by omega) (by omega)
      · skip
        clear hz8
        refine pe_iload (j := 6) (by decide +kernel) rfl ?_
        refine pe_iconstv (n := 1) (v := 1) (by decide +kernel) (by decide +kernel) ?_
        refine pz_add (by decide +kernel) rfl kz_1 (by omega) (by omega) (fun z18 hz18 => ?_)
        refine pe_goto (off := 4) (t := 110) (by decide +kernel) (by decide) rfl ?_
        refine pz_iald (by decide +kernel) cd_a41 (cl_41 hIA6) hz18 (by omega) (by omega) (fun v19 ev19 => ?_)
        rw [show A6 41 = A0 41 from (upa_fr eA6 (by decide)).trans ((hF 41 (by decide) (by decide)))] at ev19
        have rq20 := hk0 (x6.toInt + 1) (by omega) (by omega)
        rw [← ev19] at rq20
        clear hz18
        refine pi_S (j := 50) (mj := 52) (by decide +kernel) (by decide +kernel) rfl ?_
        show pmE pg X pg_tyl pg_cl (d) 52 0 [.int v4, .int v19] [] (cd f A6 R wr) _
        refine pe_iload_n (j := 0) (by decide +kernel) rfl ?_
        refine pe_bipushv (n := 9) (v := 9) (by decide +kernel) (by decide +kernel) ?_
        refine pz_mul (by decide +kernel) rfl kz_9 (by omega) (by omega) (fun z21 hz21 => ?_)
        refine pe_iload_n (j := 1) (by decide +kernel) rfl ?_
        refine pz_add (by decide +kernel) hz21 rfl (by omega) (by omega) (fun z22 hz22 => ?_)
        clear hz21
        refine pe_iret (by decide +kernel) rfl rfl ⟨rfl, rfl, ?_⟩
        show pmE pg X pg_tyl pg_cl (d + 1) 81 114 [.ref 33, .ref 41, .int x2, .int x3, .int x4, .int x5, .int x6] [.int z22, .ref 39] (cd f A6 R wr) _
        refine pe_dup2 (by decide +kernel) ⟨rfl, rfl⟩ ?_
        refine pz_iald (by decide +kernel) cd_a39 (cl_39 hIA6) hz22 (by omega) (by omega) (fun v23 ev23 => ?_)
        rw [show A6 39 = A 39 from upa_fr eA6 (by decide)] at ev23
        refine pe_iload_n (j := 3) (by decide +kernel) rfl ?_
        refine pw_add (by decide +kernel) (fun z24 => ?_)
        refine cz_st39 (by decide +kernel) hIA6 hz22 (by omega) (by omega) (fun A25 eA25 hIA25 => ?_)
        refine pz_iinc (j := 6) (n := 1) (by decide +kernel) rfl rfl (by decide +kernel) (by omega) (by omega) (fun z26 hz26 => ?_)
        show pmE pg X pg_tyl pg_cl (d + 1) 81 122 [.ref 33, .ref 41, .int x2, .int x3, .int x4, .int x5, .int z26] [] (cd f A25 R wr) _
        refine pe_goto (off := (-59)) (t := 63) (by decide +kernel) (by decide) rfl ?_
        exact ih A25 z26 hIA25 (fun k n39 n40 => (upa_fr eA25 n39).trans ((upa_fr eA6 n40).trans ((hF k n39 n40)))) (by omega) (by omega) (by omega)
set_option maxRecDepth 100000 in
set_option maxHeartbeats 8000000 in
theorem CM_81 {X : pm_X} {d : Nat} {wr : pm_W} {f : Nat → Int32} {A : Nat → List Int32} {R : Nat → Value} {x2 x3 x4 : Int32} (hX : XO X) (hI : CI f A R) (gx2 : (0 ≤ x2.toInt ∧ x2.toInt ≤ 6)) (hqp0 : (∀ j : Int, (0) ≤ j → j < (x2.toInt) → 0 ≤ ((A 41).getD j.toNat 0).toInt ∧ ((A 41).getD j.toNat 0).toInt ≤ 8)) : pmE pg X pg_tyl pg_cl (d + 1) 81 0 (pm_ent (pm_max pg 81) [.ref 33, .ref 41, .int x2, .int x3, .int x4]) [] (cd f A R wr) (fun q => ∃ (f' : Nat → Int32) (A' : Nat → List Int32), q = (none, cd f' A' R wr, 0, 0) ∧ CI f' A' R ∧ (∀ k : Nat, k ≠ 530 → f' k = f k) ∧ (∀ k : Nat, k ≠ 39 → k ≠ 40 → A' k = A k) ∧ ((True))) := by
  show pmE pg X pg_tyl pg_cl (d + 1) 81 0 [.ref 33, .ref 41, .int x2, .int x3, .int x4, pm_dead, pm_dead] [] (cd f A R wr) _
  refine pe_aload_n (j := 0) (by decide +kernel) rfl ?_
  refine pe_get (j := 32) (ci := 7) (n := 2) (by decide +kernel) (by decide +kernel) cd_o33 rfl ?_
  have hr_f_530 := cf_530 hI
  refine pe_bipushv (n := 37) (v := 37) (by decide +kernel) (by decide +kernel) ?_
  refine pz_icmp_lt (off := 4) (t := 10) (by decide +kernel) (by decide) rfl rfl kz_37 (fun h1 => ?_) (fun h1 => ?_)
  · skip
    refine pe_aload_n (j := 0) (by decide +kernel) rfl ?_
    refine pe_get (j := 32) (ci := 7) (n := 2) (by decide +kernel) (by decide +kernel) cd_o33 rfl ?_
    refine pe_bipushv (n := 10) (v := 10) (by decide +kernel) (by decide +kernel) ?_
    refine pz_mul (by decide +kernel) rfl kz_10 (by omega) (by omega) (fun z2 hz2 => ?_)
    refine pe_istore (j := 5) (ls' := [.ref 33, .ref 41, .int x2, .int x3, .int x4, .int z2, pm_dead]) (by decide +kernel) (Nat.le_of_ble_eq_true rfl) rfl ?_
    refine pe_aload_n (j := 0) (by decide +kernel) rfl ?_
    refine pe_get (j := 22) (ci := 7) (n := 4) (by decide +kernel) (by decide +kernel) cd_o33 rfl ?_
    refine pe_iload (j := 5) (by decide +kernel) rfl ?_
    refine pe_iconstv (n := 0) (v := 0) (by decide +kernel) (by decide +kernel) ?_
    refine pz_add (by decide +kernel) hz2 kz_0 (by omega) (by omega) (fun z3 hz3 => ?_)
    refine pe_iload_n (j := 2) (by decide +kernel) rfl ?_
    refine cz_st40 (by decide +kernel) hI hz3 (by omega) (by omega) (by simp only [CT]; omega) (fun A4 eA4 hIA4 => ?_)
    refine pe_aload_n (j := 0) (by decide +kernel) rfl ?_
    refine pe_get (j := 22) (ci := 7) (n := 4) (by decide +kernel) (by decide +kernel) cd_o33 rfl ?_
    refine pe_iload (j := 5) (by decide +kernel) rfl ?_
    refine pe_iconstv (n := 1) (v := 1) (by decide +kernel) (by decide +kernel) ?_
    refine pz_add (by decide +kernel) hz2 kz_1 (by omega) (by omega) (fun z5 hz5 => ?_)
    refine pe_iload_n (j := 3) (by decide +kernel) rfl ?_
    refine cz_st40 (by decide +kernel) hIA4 hz5 (by omega) (by omega) (by simp only [CT]; omega) (fun A6 eA6 hIA6 => ?_)
    refine pe_aload_n (j := 0) (by decide +kernel) rfl ?_
    refine pe_get (j := 22) (ci := 7) (n := 4) (by decide +kernel) (by decide +kernel) cd_o33 rfl ?_
    refine pe_iload (j := 5) (by decide +kernel) rfl ?_
    refine pe_iconstv (n := 2) (v := 2) (by decide +kernel) (by decide +kernel) ?_
    refine pz_add (by decide +kernel) hz2 kz_2 (by omega) (by omega) (fun z7 hz7 => ?_)
    refine pe_iload (j := 4) (by decide +kernel) rfl ?_
    refine cz_st40 (by decide +kernel) hIA6 hz7 (by omega) (by omega) (by simp only [CT]; omega) (fun A8 eA8 hIA8 => ?_)
    refine pe_aload_n (j := 0) (by decide +kernel) rfl ?_
    refine pe_get (j := 22) (ci := 7) (n := 4) (by decide +kernel) (by decide +kernel) cd_o33 rfl ?_
    refine pe_iload (j := 5) (by decide +kernel) rfl ?_
    refine pe_iconstv (n := 3) (v := 3) (by decide +kernel) (by decide +kernel) ?_
    refine pz_add (by decide +kernel) hz2 kz_3 (by omega) (by omega) (fun z9 hz9 => ?_)
    refine pe_iconstv (n := 1) (v := 1) (by decide +kernel) (by decide +kernel) ?_
    refine cz_st40 (by decide +kernel) hIA8 hz9 (by omega) (by omega) (by rw [kz_1]; simp only [CT]; omega) (fun A10 eA10 hIA10 => ?_)
    refine pe_iconstv (n := 0) (v := 0) (by decide +kernel) (by decide +kernel) ?_
    refine pe_istore (j := 6) (ls' := [.ref 33, .ref 41, .int x2, .int x3, .int x4, .int z2, .int 0]) (by decide +kernel) (Nat.le_of_ble_eq_true rfl) rfl ?_
    have hk11 : (∀ j : Int, (0) ≤ j → j < (x2.toInt) → 0 ≤ ((A10 41).getD j.toNat 0).toInt ∧ ((A10 41).getD j.toNat 0).toInt ≤ 8) := by
      intro j h1 h2
      rw [show A10 41 = A 41 from (upa_fr eA10 (by decide)).trans ((upa_fr eA8 (by decide)).trans ((upa_fr eA6 (by decide)).trans (upa_fr eA4 (by decide))))]
      first
      | (exfalso; omega)
      | exact hqp0 j (by omega) (by omega)
    refine CL_81_63 hX (by omega) (by omega) (by omega) hk11 (fun A12 y13 hIy14 hFA12 gy13 hr15 hx16 => ?_) 7 A10 0 hIA10 (fun k _ _ => rfl) (by decide +kernel) (by omega) (by decide +kernel)
    refine pe_aload_n (j := 0) (by decide +kernel) rfl ?_
    refine pe_dup (by decide +kernel) rfl ?_
    refine pe_get (j := 32) (ci := 7) (n := 2) (by decide +kernel) (by decide +kernel) cd_o33 rfl ?_
    refine pe_iconstv (n := 1) (v := 1) (by decide +kernel) (by decide +kernel) ?_
    refine pz_add (by decide +kernel) rfl kz_1 (by omega) (by omega) (fun z17 hz17 => ?_)
    refine cz_put530 (jj := 32) (by decide +kernel) (by decide +kernel) hIy14 (by omega) (by omega) (fun f18 ef18 hIf18 => ?_)
    exact pe_vret (by decide +kernel) rfl ⟨f18, A12, rfl, hIf18, (fun k n530 => upf_fr ef18 n530), (fun k n39 n40 => ((hFA12 k n39 n40)).trans ((upa_fr eA10 n40).trans ((upa_fr eA8 n40).trans ((upa_fr eA6 n40).trans (upa_fr eA4 n40))))), trivial⟩
  · skip
    exact pe_vret (by decide +kernel) rfl ⟨f, A, rfl, hI, (fun k n530 => rfl), (fun k n39 n40 => rfl), trivial⟩
set_option maxRecDepth 100000 in
set_option maxHeartbeats 8000000 in
theorem CL_81_1_63 {X : pm_X} {d : Nat} {wr : pm_W} {Q : pm_R → Prop} {f : Nat → Int32} {A0 : Nat → List Int32} {R : Nat → Value} {x2 x3 x4 x5 : Int32} (hX : XO X) (gx2 : (0 ≤ x2.toInt ∧ x2.toInt ≤ 6)) (gx5 : (0 ≤ x5.toInt ∧ x5.toInt ≤ 360)) (he5 : x5.toInt = (10 * (f 530).toInt)) (k_125_0 : ∀ (A' : Nat → List Int32) (y6 : Int32), CI f A' R → (∀ k : Nat, k ≠ 39 → k ≠ 40 → A' k = A0 k) → (0 ≤ y6.toInt ∧ y6.toInt ≤ 6) → x2.toInt ≤ y6.toInt → ((f 530).toInt + (-36)) ≤ 0 → pmE pg X pg_tyl pg_cl (d + 1) 81 125 [.ref 33, .ref 67, .int x2, .int x3, .int x4, .int x5, .int y6] [] (cd f A' R wr) Q) : ∀ (m : Nat) (A : Nat → List Int32) (x6 : Int32), CI f A R → (∀ k : Nat, k ≠ 39 → k ≠ 40 → A k = A0 k) → (0 ≤ x6.toInt ∧ x6.toInt ≤ 6) → ((f 530).toInt + (-36)) ≤ 0 → 6 - x6.toInt < (m : Int) → pmE pg X pg_tyl pg_cl (d + 1) 81 63 [.ref 33, .ref 67, .int x2, .int x3, .int x4, .int x5, .int x6] [] (cd f A R wr) Q := by
  intro m
  induction m with
  | zero =>
    intro A x6 hI hF gx6 hxi0 hm
    exfalso
    have l0 := zi_lo x6
    have u0 := zi_hi x6
    omega
  | succ m ih =>
    intro A x6 hI hF gx6 hxi0 hm
    have hr_f_530 := cf_530 hI
    refine pe_iload (j := 6) (by decide +kernel) rfl ?_
    refine pe_iload_n (j := 2) (by decide +kernel) rfl ?_
    refine pz_icmp_ge (off := 59) (t := 125) (by decide +kernel) (by decide) rfl rfl rfl (fun h1 => ?_) (fun h1 => ?_)
    · skip
      exact k_125_0 A x6 hI (fun k n39 n40 => (hF k n39 n40)) (by omega) (by omega) (by omega)
    · skip
      refine pe_aload_n (j := 0) (by decide +kernel) rfl ?_
      refine pe_get (j := 22) (ci := 7) (n := 4) (by decide +kernel) (by decide +kernel) cd_o33 rfl ?_
      refine pe_iload (j := 5) (by decide +kernel) rfl ?_
      refine pe_iconstv (n := 4) (v := 4) (by decide +kernel) (by decide +kernel) ?_
      refine pz_add (by decide +kernel) he5 kz_4 (by omega) (by omega) (fun z2 hz2 => ?_)
      refine pe_iload (j := 6) (by decide +kernel) rfl ?_
      refine pz_add (by decide +kernel) hz2 rfl (by omega) (by omega) (fun z3 hz3 => ?_)
      clear hz2
      refine pe_aload_n (j := 1) (by decide +kernel) rfl ?_
      refine pe_iload (j := 6) (by decide +kernel) rfl ?_
      refine pz_iald (by decide +kernel) cd_a67 (cl_67 hI) rfl (by omega) (by omega) (fun v4 ev4 => ?_)
      have rv4 : 0 ≤ v4.toInt ∧ v4.toInt ≤ 8 := ct_67 hI ev4
      rw [show A 67 = A0 67 from (hF 67 (by decide) (by decide))] at ev4
      refine cz_st40 (by decide +kernel) hI hz3 (by omega) (by omega) (by simp only [CT]; omega) (fun A5 eA5 hIA5 => ?_)
      refine pe_aload_n (j := 0) (by decide +kernel) rfl ?_
      refine pe_get (j := 18) (ci := 7) (n := 3) (by decide +kernel) (by decide +kernel) cd_o33 rfl ?_
      refine pe_aload_n (j := 1) (by decide +kernel) rfl ?_
      refine pe_iload (j := 6) (by decide +kernel) rfl ?_
      refine pz_iald (by decide +kernel) cd_a67 (cl_67 hIA5) rfl (by omega) (by omega) (fun v6 ev6 => ?_)
      rw [show A5 67 = A0 67 from (upa_fr eA5 (by decide)).trans ((hF 67 (by decide) (by decide)))] at ev6
      rw [ev6.trans ev4.symm]
      clear ev6 v6
      refine pe_aload_n (j := 1) (by decide +kernel) rfl ?_
      refine pe_iload (j := 6) (by decide +kernel) rfl ?_
      refine pe_iconstv (n := 1) (v := 1) (by decide +kernel) (by decide +kernel) ?_
      refine pz_add (by decide +kernel) rfl kz_1 (by omega) (by omega) (fun z7 hz7 => ?_)
      refine pe_iload_n (j := 2) (by decide +kernel) rfl ?_
      refine pz_icmp_ge (off := 10) (t := 109) (by decide +kernel) (by decide) rfl hz7 rfl (fun h8 => ?_) (fun h8 => ?_)
      · skip
        clear hz7
        refine pe_iconstv (n := 0) (v := 0) (by decide +kernel) (by decide +kernel) ?_
        refine pz_iald (by decide +kernel) cd_a67 (cl_67 hIA5) kz_0 (by omega) (by omega) (fun v9 ev9 => ?_)
        have rv9 : 0 ≤ v9.toInt ∧ v9.toInt ≤ 8 := ct_67 hIA5 ev9
        rw [show A5 67 = A0 67 from (upa_fr eA5 (by decide)).trans ((hF 67 (by decide) (by decide)))] at ev9
        refine pi_S (j := 50) (mj := 52) (by decide +kernel) (by decide +kernel) rfl ?_
        show pmE pg X pg_tyl pg_cl (d) 52 0 [.int v4, .int v9] [] (cd f A5 R wr) _
        refine pe_iload_n (j := 0) (by decide +kernel) rfl ?_
        refine pe_bipushv (n := 9) (v := 9) (by decide +kernel) (by decide +kernel) ?_
        refine pz_mul (by decide +kernel) rfl kz_9 (by omega) (by omega) (fun z10 hz10 => ?_)
        refine pe_iload_n (j := 1) (by decide +kernel) rfl ?_
        refine pz_add (by decide +kernel) hz10 rfl (by omega) (by omega) (fun z11 hz11 => ?_)
        clear hz10
        refine pe_iret (by decide +kernel) rfl rfl ⟨rfl, rfl, ?_⟩
        show pmE pg X pg_tyl pg_cl (d + 1) 81 114 [.ref 33, .ref 67, .int x2, .int x3, .int x4, .int x5, .int x6] [.int z11, .ref 39] (cd f A5 R wr) _
        refine pe_dup2 (by decide +kernel) ⟨rfl, rfl⟩ ?_
        refine pz_iald (by decide +kernel) cd_a39 (cl_39 hIA5) hz11 (by omega) (by omega) (fun v12 ev12 => ?_)
        rw [show A5 39 = A 39 from upa_fr eA5 (by decide)] at ev12
        refine pe_iload_n (j := 3) (by decide +kernel) rfl ?_
        refine pw_add (by decide +kernel) (fun z13 => ?_)
        refine cz_st39 (by decide +kernel) hIA5 hz11 (by omega) (by omega) (fun A14 eA14 hIA14 => ?_)
        refine pz_iinc (j := 6) (n := 1) (by decide +kernel) rfl rfl (by decide +kernel) (by omega) (by omega) (fun z15 hz15 => ?_)
        show pmE pg X pg_tyl pg_cl (d + 1) 81 122 [.ref 33, .ref 67, .int x2, .int x3, .int x4, .int x5, .int z15] [] (cd f A14 R wr) _
        refine pe_goto (off := (-59)) (t := 63) (by decide +kernel) (by decide) rfl ?_
        exact ih A14 z15 hIA14 (fun k n39 n40 => (upa_fr eA14 n39).trans ((upa_fr eA5 n40).trans ((hF k n39 n40)))) (by omega) (by omega) (by omega)
      · skip
        clear hz7
        refine pe_iload (j := 6) (by decide +kernel) rfl ?_
        refine pe_iconstv (n := 1) (v := 1) (by decide +kernel) (by decide +kernel) ?_
        refine pz_add (by decide +kernel) rfl kz_1 (by omega) (by omega) (fun z16 hz16 => ?_)
        refine pe_goto (off := 4) (t := 110) (by decide +kernel) (by decide) rfl ?_
        refine pz_iald (by decide +kernel) cd_a67 (cl_67 hIA5) hz16 (by omega) (by omega) (fun v17 ev17 => ?_)
        have rv17 : 0 ≤ v17.toInt ∧ v17.toInt ≤ 8 := ct_67 hIA5 ev17
        rw [show A5 67 = A0 67 from (upa_fr eA5 (by decide)).trans ((hF 67 (by decide) (by decide)))] at ev17
        clear hz16
        refine pi_S (j := 50) (mj := 52) (by decide +kernel) (by decide +kernel) rfl ?_
        show pmE pg X pg_tyl pg_cl (d) 52 0 [.int v4, .int v17] [] (cd f A5 R wr) _
        refine pe_iload_n (j := 0) (by decide +kernel) rfl ?_
        refine pe_bipushv (n := 9) (v := 9) (by decide +kernel) (by decide +kernel) ?_
        refine pz_mul (by decide +kernel) rfl kz_9 (by omega) (by omega) (fun z18 hz18 => ?_)
        refine pe_iload_n (j := 1) (by decide +kernel) rfl ?_
        refine pz_add (by decide +kernel) hz18 rfl (by omega) (by omega) (fun z19 hz19 => ?_)
        clear hz18
        refine pe_iret (by decide +kernel) rfl rfl ⟨rfl, rfl, ?_⟩
        show pmE pg X pg_tyl pg_cl (d + 1) 81 114 [.ref 33, .ref 67, .int x2, .int x3, .int x4, .int x5, .int x6] [.int z19, .ref 39] (cd f A5 R wr) _
        refine pe_dup2 (by decide +kernel) ⟨rfl, rfl⟩ ?_
        refine pz_iald (by decide +kernel) cd_a39 (cl_39 hIA5) hz19 (by omega) (by omega) (fun v20 ev20 => ?_)
        rw [show A5 39 = A 39 from upa_fr eA5 (by decide)] at ev20
        refine pe_iload_n (j := 3) (by decide +kernel) rfl ?_
        refine pw_add (by decide +kernel) (fun z21 => ?_)
        refine cz_st39 (by decide +kernel) hIA5 hz19 (by omega) (by omega) (fun A22 eA22 hIA22 => ?_)
        refine pz_iinc (j := 6) (n := 1) (by decide +kernel) rfl rfl (by decide +kernel) (by omega) (by omega) (fun z23 hz23 => ?_)
        show pmE pg X pg_tyl pg_cl (d + 1) 81 122 [.ref 33, .ref 67, .int x2, .int x3, .int x4, .int x5, .int z23] [] (cd f A22 R wr) _
        refine pe_goto (off := (-59)) (t := 63) (by decide +kernel) (by decide) rfl ?_
        exact ih A22 z23 hIA22 (fun k n39 n40 => (upa_fr eA22 n39).trans ((upa_fr eA5 n40).trans ((hF k n39 n40)))) (by omega) (by omega) (by omega)
set_option maxRecDepth 100000 in
set_option maxHeartbeats 8000000 in
theorem CM_81_1 {X : pm_X} {d : Nat} {wr : pm_W} {f : Nat → Int32} {A : Nat → List Int32} {R : Nat → Value} {x2 x3 x4 : Int32} (hX : XO X) (hI : CI f A R) (gx2 : (0 ≤ x2.toInt ∧ x2.toInt ≤ 6)) : pmE pg X pg_tyl pg_cl (d + 1) 81 0 (pm_ent (pm_max pg 81) [.ref 33, .ref 67, .int x2, .int x3, .int x4]) [] (cd f A R wr) (fun q => ∃ (f' : Nat → Int32) (A' : Nat → List Int32), q = (none, cd f' A' R wr, 0, 0) ∧ CI f' A' R ∧ (∀ k : Nat, k ≠ 530 → f' k = f k) ∧ (∀ k : Nat, k ≠ 39 → k ≠ 40 → A' k = A k) ∧ ((True))) := by
  show pmE pg X pg_tyl pg_cl (d + 1) 81 0 [.ref 33, .ref 67, .int x2, .int x3, .int x4, pm_dead, pm_dead] [] (cd f A R wr) _
  refine pe_aload_n (j := 0) (by decide +kernel) rfl ?_
  refine pe_get (j := 32) (ci := 7) (n := 2) (by decide +kernel) (by decide +kernel) cd_o33 rfl ?_
  have hr_f_530 := cf_530 hI
  refine pe_bipushv (n := 37) (v := 37) (by decide +kernel) (by decide +kernel) ?_
  refine pz_icmp_lt (off := 4) (t := 10) (by decide +kernel) (by decide) rfl rfl kz_37 (fun h1 => ?_) (fun h1 => ?_)
  · skip
    refine pe_aload_n (j := 0) (by decide +kernel) rfl ?_
    refine pe_get (j := 32) (ci := 7) (n := 2) (by decide +kernel) (by decide +kernel) cd_o33 rfl ?_
    refine pe_bipushv (n := 10) (v := 10) (by decide +kernel) (by decide +kernel) ?_
    refine pz_mul (by decide +kernel) rfl kz_10 (by omega) (by omega) (fun z2 hz2 => ?_)
    refine pe_istore (j := 5) (ls' := [.ref 33, .ref 67, .int x2, .int x3, .int x4, .int z2, pm_dead]) (by decide +kernel) (Nat.le_of_ble_eq_true rfl) rfl ?_
    refine pe_aload_n (j := 0) (by decide +kernel) rfl ?_
    refine pe_get (j := 22) (ci := 7) (n := 4) (by decide +kernel) (by decide +kernel) cd_o33 rfl ?_
    refine pe_iload (j := 5) (by decide +kernel) rfl ?_
    refine pe_iconstv (n := 0) (v := 0) (by decide +kernel) (by decide +kernel) ?_
    refine pz_add (by decide +kernel) hz2 kz_0 (by omega) (by omega) (fun z3 hz3 => ?_)
    refine pe_iload_n (j := 2) (by decide +kernel) rfl ?_
    refine cz_st40 (by decide +kernel) hI hz3 (by omega) (by omega) (by simp only [CT]; omega) (fun A4 eA4 hIA4 => ?_)
    refine pe_aload_n (j := 0) (by decide +kernel) rfl ?_
    refine pe_get (j := 22) (ci := 7) (n := 4) (by decide +kernel) (by decide +kernel) cd_o33 rfl ?_
    refine pe_iload (j := 5) (by decide +kernel) rfl ?_
    refine pe_iconstv (n := 1) (v := 1) (by decide +kernel) (by decide +kernel) ?_
    refine pz_add (by decide +kernel) hz2 kz_1 (by omega) (by omega) (fun z5 hz5 => ?_)
    refine pe_iload_n (j := 3) (by decide +kernel) rfl ?_
    refine cz_st40 (by decide +kernel) hIA4 hz5 (by omega) (by omega) (by simp only [CT]; omega) (fun A6 eA6 hIA6 => ?_)
    refine pe_aload_n (j := 0) (by decide +kernel) rfl ?_
    refine pe_get (j := 22) (ci := 7) (n := 4) (by decide +kernel) (by decide +kernel) cd_o33 rfl ?_
    refine pe_iload (j := 5) (by decide +kernel) rfl ?_
    refine pe_iconstv (n := 2) (v := 2) (by decide +kernel) (by decide +kernel) ?_
    refine pz_add (by decide +kernel) hz2 kz_2 (by omega) (by omega) (fun z7 hz7 => ?_)
    refine pe_iload (j := 4) (by decide +kernel) rfl ?_
    refine cz_st40 (by decide +kernel) hIA6 hz7 (by omega) (by omega) (by simp only [CT]; omega) (fun A8 eA8 hIA8 => ?_)
    refine pe_aload_n (j := 0) (by decide +kernel) rfl ?_
    refine pe_get (j := 22) (ci := 7) (n := 4) (by decide +kernel) (by decide +kernel) cd_o33 rfl ?_
    refine pe_iload (j := 5) (by decide +kernel) rfl ?_
    refine pe_iconstv (n := 3) (v := 3) (by decide +kernel) (by decide +kernel) ?_
    refine pz_add (by decide +kernel) hz2 kz_3 (by omega) (by omega) (fun z9 hz9 => ?_)
    refine pe_iconstv (n := 1) (v := 1) (by decide +kernel) (by decide +kernel) ?_
    refine cz_st40 (by decide +kernel) hIA8 hz9 (by omega) (by omega) (by rw [kz_1]; simp only [CT]; omega) (fun A10 eA10 hIA10 => ?_)
    refine pe_iconstv (n := 0) (v := 0) (by decide +kernel) (by decide +kernel) ?_
    refine pe_istore (j := 6) (ls' := [.ref 33, .ref 67, .int x2, .int x3, .int x4, .int z2, .int 0]) (by decide +kernel) (Nat.le_of_ble_eq_true rfl) rfl ?_
    refine CL_81_1_63 hX (by omega) (by omega) (by omega) (fun A11 y12 hIy13 hFA11 gy12 hr14 hx15 => ?_) 7 A10 0 hIA10 (fun k _ _ => rfl) (by decide +kernel) (by omega) (by decide +kernel)
    refine pe_aload_n (j := 0) (by decide +kernel) rfl ?_
    refine pe_dup (by decide +kernel) rfl ?_
    refine pe_get (j := 32) (ci := 7) (n := 2) (by decide +kernel) (by decide +kernel) cd_o33 rfl ?_
    refine pe_iconstv (n := 1) (v := 1) (by decide +kernel) (by decide +kernel) ?_
    refine pz_add (by decide +kernel) rfl kz_1 (by omega) (by omega) (fun z16 hz16 => ?_)
    refine cz_put530 (jj := 32) (by decide +kernel) (by decide +kernel) hIy13 (by omega) (by omega) (fun f17 ef17 hIf17 => ?_)
    exact pe_vret (by decide +kernel) rfl ⟨f17, A11, rfl, hIf17, (fun k n530 => upf_fr ef17 n530), (fun k n39 n40 => ((hFA11 k n39 n40)).trans ((upa_fr eA10 n40).trans ((upa_fr eA8 n40).trans ((upa_fr eA6 n40).trans (upa_fr eA4 n40))))), trivial⟩
  · skip
    exact pe_vret (by decide +kernel) rfl ⟨f, A, rfl, hI, (fun k n530 => rfl), (fun k n39 n40 => rfl), trivial⟩
set_option maxRecDepth 100000 in
set_option maxHeartbeats 8000000 in
theorem CL_79_5 {X : pm_X} {d : Nat} {wr : pm_W} {Q : pm_R → Prop} {f : Nat → Int32} {A0 : Nat → List Int32} {R : Nat → Value} {x2 : Int32} {v : Nat} {rw : Nat} (hX : XO X) (hv : VV v) (hrw : RR rw) (hR0 : R 0 = .ref v) (gx2 : (0 ≤ x2.toInt ∧ x2.toInt ≤ 29)) (k_46_0 : ∀ (A' : Nat → List Int32) (y3 : Int32) (y4 : Int32) (v5 : Value), CI f A' R → (∀ k : Nat, k ≠ 41 → A' k = A0 k) → (0 ≤ y3.toInt ∧ y3.toInt ≤ 6) → (6 ≤ y4.toInt ∧ y4.toInt ≤ 6) → (y3.toInt + (-1) * y4.toInt) ≤ 0 → pmE pg X pg_tyl pg_cl (d + 3) 79 46 [.ref 33, .ref rw, .int x2, .int y3, .int y4, v5] [] (cd f A' R wr) Q) : ∀ (m : Nat) (A : Nat → List Int32) (x3 : Int32) (x4 : Int32) (u5 : Value), CI f A R → (∀ k : Nat, k ≠ 41 → A k = A0 k) → (0 ≤ x3.toInt ∧ x3.toInt ≤ 6) → (0 ≤ x4.toInt ∧ x4.toInt ≤ 6) → (x3.toInt + (-1) * x4.toInt) ≤ 0 → 6 - x4.toInt < (m : Int) → pmE pg X pg_tyl pg_cl (d + 3) 79 5 [.ref 33, .ref rw, .int x2, .int x3, .int x4, u5] [] (cd f A R wr) Q := by
  have bv := VV_b hv
  have brw := RR_b hrw
  intro m
  induction m with
  | zero =>
    intro A x3 x4 u5 hI hF gx3 gx4 hxi0 hm
    exfalso
    have l0 := zi_lo x4
    have u0 := zi_hi x4
    omega
  | succ m ih =>
    intro A x3 x4 u5 hI hF gx3 gx4 hxi0 hm
    refine pe_iload (j := 4) (by decide +kernel) rfl ?_
    refine pe_bipushv (n := 6) (v := 6) (by decide +kernel) (by decide +kernel) ?_
    refine pz_icmp_ge (off := 37) (t := 46) (by decide +kernel) (by decide) rfl rfl kz_6 (fun h1 => ?_) (fun h1 => ?_)
    · skip
      exact k_46_0 A x3 x4 (u5) hI (fun k n41 => (hF k n41)) (by omega) (by omega) (by omega)
    · skip
      refine pe_aload_n (j := 1) (by decide +kernel) rfl ?_
      refine pe_iload_n (j := 2) (by decide +kernel) rfl ?_
      refine pe_iconstv (n := 3) (v := 3) (by decide +kernel) (by decide +kernel) ?_
      refine pe_iload (j := 4) (by decide +kernel) rfl ?_
      refine pz_add (by decide +kernel) kz_3 rfl (by omega) (by omega) (fun z2 hz2 => ?_)
      refine pi_V (j := 59) (mj := 68) (by decide +kernel) (cll_V (args := [.int z2, .int x2]) (n := 2) (by decide +kernel) rfl rfl (cr_o hrw) (by decide +kernel) (Nat.le_of_ble_eq_true rfl) (Nat.le_of_ble_eq_true rfl)) ?_
      show pmE pg X pg_tyl pg_cl (d + 2) 68 0 [.ref rw, .int x2, .int z2] [] (cd f A R wr) _
      refine pe_aload_n (j := 0) (by decide +kernel) rfl ?_
      refine pe_get (j := 9) (ci := 5) (n := 1) (by decide +kernel) (by decide +kernel) (cr_o hrw) rfl ?_
      refine pe_iload_n (j := 1) (by decide +kernel) rfl ?_
      refine pe_bipushv (n := 9) (v := 9) (by decide +kernel) (by decide +kernel) ?_
      refine pz_mul (by decide +kernel) rfl kz_9 (by omega) (by omega) (fun z3 hz3 => ?_)
      refine pe_iload_n (j := 2) (by decide +kernel) rfl ?_
      refine pz_add (by decide +kernel) hz3 hz2 (by omega) (by omega) (fun z4 hz4 => ?_)
      clear hz3
      refine pz_iald (by decide +kernel) (cr_a1 hrw) (cr_l1 hrw hI) hz4 (by omega) (by omega) (fun v5 ev5 => ?_)
      rw [show A (rw + 1) = A0 (rw + 1) from (hF (rw + 1) (by omega))] at ev5
      clear hz4
      refine pe_iret (by decide +kernel) rfl rfl ⟨rfl, rfl, ?_⟩
      show pmE pg X pg_tyl pg_cl (d + 3) 79 21 [.ref 33, .ref rw, .int x2, .int x3, .int x4, u5] [.int v5] (cd f A R wr) _
      refine pe_istore (j := 5) (ls' := [.ref 33, .ref rw, .int x2, .int x3, .int x4, .int v5]) (by decide +kernel) (Nat.le_of_ble_eq_true rfl) rfl ?_
      refine pe_iload (j := 5) (by decide +kernel) rfl ?_
      refine pe_iconstv (n := (-1)) (v := (-1)) (by decide +kernel) (by decide +kernel) ?_
      have lw7 := zi_lo v5
      have uw7 := zi_hi v5
      refine pz_icmp_eq (off := 14) (t := 40) (by decide +kernel) (by decide) rfl rfl kz_m1 (fun h6 => ?_) (fun h6 => ?_)
      · skip
        refine pz_iinc (j := 4) (n := 1) (by decide +kernel) rfl rfl (by decide +kernel) (by omega) (by omega) (fun z8 hz8 => ?_)
        show pmE pg X pg_tyl pg_cl (d + 3) 79 43 [.ref 33, .ref rw, .int x2, .int x3, .int z8, .int v5] [] (cd f A R wr) _
        refine pe_goto (off := (-38)) (t := 5) (by decide +kernel) (by decide) rfl ?_
        exact ih A x3 z8 (.int v5) hI (fun k n41 => (hF k n41)) (by omega) (by omega) (by omega) (by omega)
      · skip
        refine pe_aload_n (j := 0) (by decide +kernel) rfl ?_
        refine pe_get (j := 25) (ci := 7) (n := 5) (by decide +kernel) (by decide +kernel) cd_o33 rfl ?_
        refine pe_iload_n (j := 3) (by decide +kernel) rfl ?_
        refine pe_iload (j := 5) (by decide +kernel) rfl ?_
        refine cz_st41 (by decide +kernel) hI rfl (by omega) (by omega) (fun A9 eA9 hIA9 => ?_)
        refine pz_iinc (j := 3) (n := 1) (by decide +kernel) rfl rfl (by decide +kernel) (by omega) (by omega) (fun z10 hz10 => ?_)
        show pmE pg X pg_tyl pg_cl (d + 3) 79 40 [.ref 33, .ref rw, .int x2, .int z10, .int x4, .int v5] [] (cd f A9 R wr) _
        refine pz_iinc (j := 4) (n := 1) (by decide +kernel) rfl rfl (by decide +kernel) (by omega) (by omega) (fun z11 hz11 => ?_)
        show pmE pg X pg_tyl pg_cl (d + 3) 79 43 [.ref 33, .ref rw, .int x2, .int z10, .int z11, .int v5] [] (cd f A9 R wr) _
        refine pe_goto (off := (-38)) (t := 5) (by decide +kernel) (by decide) rfl ?_
        exact ih A9 z10 z11 (.int v5) hIA9 (fun k n41 => (upa_fr eA9 n41).trans ((hF k n41))) (by omega) (by omega) (by omega) (by omega)
set_option maxRecDepth 100000 in
set_option maxHeartbeats 8000000 in
theorem CM_79 {X : pm_X} {d : Nat} {wr : pm_W} {f : Nat → Int32} {A : Nat → List Int32} {R : Nat → Value} {x2 : Int32} {v : Nat} {rw : Nat} (hX : XO X) (hI : CI f A R) (hv : VV v) (hrw : RR rw) (hR0 : R 0 = .ref v) (gx2 : (0 ≤ x2.toInt ∧ x2.toInt ≤ 29)) : pmE pg X pg_tyl pg_cl (d + 3) 79 0 (pm_ent (pm_max pg 79) [.ref 33, .ref rw, .int x2]) [] (cd f A R wr) (fun q => ∃ (f' : Nat → Int32) (A' : Nat → List Int32) (r : Int32), q = (some (.int r), cd f' A' R wr, 0, 0) ∧ CI f' A' R ∧ (∀ k : Nat, k ≠ 530 → f' k = f k) ∧ (∀ k : Nat, k ≠ 39 → k ≠ 40 → k ≠ 41 → A' k = A k) ∧ ((r = 0 ∧ True) ∨ (r = 1 ∧ True))) := by
  have bv := VV_b hv
  have brw := RR_b hrw
  show pmE pg X pg_tyl pg_cl (d + 3) 79 0 [.ref 33, .ref rw, .int x2, pm_dead, pm_dead, pm_dead] [] (cd f A R wr) _
  refine pe_iconstv (n := 0) (v := 0) (by decide +kernel) (by decide +kernel) ?_
  refine pe_istore_n (j := 3) (ls' := [.ref 33, .ref rw, .int x2, .int 0, pm_dead, pm_dead]) (by decide +kernel) (Nat.le_of_ble_eq_true rfl) rfl ?_
  refine pe_iconstv (n := 0) (v := 0) (by decide +kernel) (by decide +kernel) ?_
  refine pe_istore (j := 4) (ls' := [.ref 33, .ref rw, .int x2, .int 0, .int 0, pm_dead]) (by decide +kernel) (Nat.le_of_ble_eq_true rfl) rfl ?_
  have hl7 := kz_0
  have hl8 := kz_0
  refine CL_79_5 hX hv hrw (hR0) (by omega) (fun A1 y2 y3 u4 hIy5 hFA1 gy2 gy3 hx6 => ?_) 7 A 0 0 (pm_dead) hI (fun k _ => rfl) (by decide +kernel) (by decide +kernel) (by omega) (by decide +kernel)
  refine pe_aload_n (j := 1) (by decide +kernel) rfl ?_
  refine pe_iload_n (j := 2) (by decide +kernel) rfl ?_
  refine pe_iconstv (n := 1) (v := 1) (by decide +kernel) (by decide +kernel) ?_
  refine pi_V (j := 59) (mj := 68) (by decide +kernel) (cll_V (args := [.int 1, .int x2]) (n := 2) (by decide +kernel) rfl rfl (cr_o hrw) (by decide +kernel) (Nat.le_of_ble_eq_true rfl) (Nat.le_of_ble_eq_true rfl)) ?_
  show pmE pg X pg_tyl pg_cl (d + 2) 68 0 [.ref rw, .int x2, .int 1] [] (cd f A1 R wr) _
  refine pe_aload_n (j := 0) (by decide +kernel) rfl ?_
  refine pe_get (j := 9) (ci := 5) (n := 1) (by decide +kernel) (by decide +kernel) (cr_o hrw) rfl ?_
  refine pe_iload_n (j := 1) (by decide +kernel) rfl ?_
  refine pe_bipushv (n := 9) (v := 9) (by decide +kernel) (by decide +kernel) ?_
  refine pz_mul (by decide +kernel) rfl kz_9 (by omega) (by omega) (fun z9 hz9 => ?_)
  refine pe_iload_n (j := 2) (by decide +kernel) rfl ?_
  refine pz_add (by decide +kernel) hz9 kz_1 (by omega) (by omega) (fun z10 hz10 => ?_)
  clear hz9
  refine pz_iald (by decide +kernel) (cr_a1 hrw) (cr_l1 hrw hIy5) hz10 (by omega) (by omega) (fun v11 ev11 => ?_)
  rw [show A1 (rw + 1) = A (rw + 1) from (hFA1 (rw + 1) (by omega))] at ev11
  clear hz10
  refine pe_iret (by decide +kernel) rfl rfl ⟨rfl, rfl, ?_⟩
  show pmE pg X pg_tyl pg_cl (d + 3) 79 52 [.ref 33, .ref rw, .int x2, .int y2, .int y3, u4] [.int v11] (cd f A1 R wr) _
  refine pe_istore (j := 4) (ls' := [.ref 33, .ref rw, .int x2, .int y2, .int v11, u4]) (by decide +kernel) (Nat.le_of_ble_eq_true rfl) rfl ?_
  refine pe_aload_n (j := 0) (by decide +kernel) rfl ?_
  refine pe_aload_n (j := 0) (by decide +kernel) rfl ?_
  refine pe_get (j := 25) (ci := 7) (n := 5) (by decide +kernel) (by decide +kernel) cd_o33 rfl ?_
  refine pe_iload_n (j := 3) (by decide +kernel) rfl ?_
  refine pe_iload (j := 4) (by decide +kernel) rfl ?_
  refine pz_callV (j := 92) (mj := 80) (by decide +kernel) (cll_V (args := [.int v11, .int y2, .ref 41]) (n := 3) (by decide +kernel) rfl rfl cd_o33 (by decide +kernel) (Nat.le_of_ble_eq_true rfl) (Nat.le_of_ble_eq_true rfl)) (CM_80 hX hIy5 hv (hR0) (by omega)) (fun q12a q12b q12c q12d hqq12 => ?_)
  obtain ⟨rq12, eq12, kq12⟩ := hqq12
  cases eq12
  refine ⟨rfl, rfl, ?_⟩
  rcases kq12 with kq12 | kq12
  · skip
    obtain ⟨erq12, kq12⟩ := kq12
    subst erq12
    show pmE pg X pg_tyl pg_cl (d + 3) 79 65 [.ref 33, .ref rw, .int x2, .int y2, .int v11, u4] [.int 0] (cd f A1 R wr) _
    refine pz_if_ne (off := 5) (t := 70) (by decide +kernel) (by decide) rfl kz_0 (fun h13 => by omega) (fun h13 => ?_)
    refine pe_iconstv (n := 0) (v := 0) (by decide +kernel) (by decide +kernel) ?_
    exact pe_iret (by decide +kernel) rfl rfl ⟨f, A1, 0, rfl, hIy5, (fun k n530 => rfl), (fun k n39 n40 n41 => (hFA1 k n41)), Or.inl ⟨rfl, trivial⟩⟩
  · skip
    obtain ⟨erq12, kq12⟩ := kq12
    subst erq12
    obtain ⟨hq14, kq12⟩ := kq12
    show pmE pg X pg_tyl pg_cl (d + 3) 79 65 [.ref 33, .ref rw, .int x2, .int y2, .int v11, u4] [.int 1] (cd f A1 R wr) _
    refine pz_if_ne (off := 5) (t := 70) (by decide +kernel) (by decide) rfl kz_1 (fun h15 => ?_) (fun h15 => by omega)
    refine pe_aload_n (j := 0) (by decide +kernel) rfl ?_
    refine pe_aload_n (j := 0) (by decide +kernel) rfl ?_
    refine pe_get (j := 25) (ci := 7) (n := 5) (by decide +kernel) (by decide +kernel) cd_o33 rfl ?_
    refine pe_iload_n (j := 3) (by decide +kernel) rfl ?_
    refine pe_iload (j := 4) (by decide +kernel) rfl ?_
    refine pe_aload_n (j := 1) (by decide +kernel) rfl ?_
    refine pe_iload_n (j := 2) (by decide +kernel) rfl ?_
    refine pe_iconstv (n := 2) (v := 2) (by decide +kernel) (by decide +kernel) ?_
    refine pi_V (j := 59) (mj := 68) (by decide +kernel) (cll_V (args := [.int 2, .int x2]) (n := 2) (by decide +kernel) rfl rfl (cr_o hrw) (by decide +kernel) (Nat.le_of_ble_eq_true rfl) (Nat.le_of_ble_eq_true rfl)) ?_
    show pmE pg X pg_tyl pg_cl (d + 2) 68 0 [.ref rw, .int x2, .int 2] [] (cd f A1 R wr) _
    refine pe_aload_n (j := 0) (by decide +kernel) rfl ?_
    refine pe_get (j := 9) (ci := 5) (n := 1) (by decide +kernel) (by decide +kernel) (cr_o hrw) rfl ?_
    refine pe_iload_n (j := 1) (by decide +kernel) rfl ?_
    refine pe_bipushv (n := 9) (v := 9) (by decide +kernel) (by decide +kernel) ?_
    refine pz_mul (by decide +kernel) rfl kz_9 (by omega) (by omega) (fun z16 hz16 => ?_)
    refine pe_iload_n (j := 2) (by decide +kernel) rfl ?_
    refine pz_add (by decide +kernel) hz16 kz_2 (by omega) (by omega) (fun z17 hz17 => ?_)
    clear hz16
    refine pz_iald (by decide +kernel) (cr_a1 hrw) (cr_l1 hrw hIy5) hz17 (by omega) (by omega) (fun v18 ev18 => ?_)
    rw [show A1 (rw + 1) = A (rw + 1) from (hFA1 (rw + 1) (by omega))] at ev18
    clear hz17
    refine pe_iret (by decide +kernel) rfl rfl ⟨rfl, rfl, ?_⟩
    show pmE pg X pg_tyl pg_cl (d + 3) 79 84 [.ref 33, .ref rw, .int x2, .int y2, .int v11, u4] [.int v18, .int v11, .int y2, .ref 41, .ref 33] (cd f A1 R wr) _
    have hq19 : (∀ j : Int, (0) ≤ j → j < (y2.toInt) → 0 ≤ ((A1 41).getD j.toNat 0).toInt ∧ ((A1 41).getD j.toNat 0).toInt ≤ 8) := by
      intro j h1 h2
      first
      | (exfalso; omega)
      | exact hq14 j (by omega) (by omega)
    refine pz_callV (j := 96) (mj := 81) (by decide +kernel) (cll_V (args := [.int v18, .int v11, .int y2, .ref 41]) (n := 4) (by decide +kernel) rfl rfl cd_o33 (by decide +kernel) (Nat.le_of_ble_eq_true rfl) (Nat.le_of_ble_eq_true rfl)) (CM_81 hX hIy5 (by omega) hq19) (fun q20a q20b q20c q20d hqq20 => ?_)
    obtain ⟨f21, A22, eq20, hIq20, hGq20, hFq20, kq20⟩ := hqq20
    cases eq20
    refine ⟨rfl, rfl, ?_⟩
    show pmE pg X pg_tyl pg_cl (d + 3) 79 87 [.ref 33, .ref rw, .int x2, .int y2, .int v11, u4] [] (cd f21 A22 R wr) _
    refine pe_iconstv (n := 1) (v := 1) (by decide +kernel) (by decide +kernel) ?_
    exact pe_iret (by decide +kernel) rfl rfl ⟨f21, A22, 1, rfl, hIq20, (fun k n530 => (hGq20 k n530)), (fun k n39 n40 n41 => ((hFq20 k n39 n40)).trans ((hFA1 k n41))), Or.inr (⟨rfl, trivial⟩)⟩
