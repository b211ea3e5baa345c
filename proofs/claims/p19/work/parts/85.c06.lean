set_option maxRecDepth 100000 in
set_option maxHeartbeats 8000000 in
theorem CM_75 {X : pm_X} {d : Nat} {wr : pm_W} {f : Nat → Int32} {A : Nat → List Int32} {R : Nat → Value} {x2 : Int32} {v : Nat} {rw : Nat} (hX : XO X) (hI : CI f A R) (hv : VV v) (hrw : RR rw) (hR0 : R 0 = .ref v) (gx2 : (0 ≤ x2.toInt ∧ x2.toInt ≤ 29)) : pmE pg X pg_tyl pg_cl (d + 4) 75 0 (pm_ent (pm_max pg 75) [.ref 33, .ref rw, .int x2]) [] (cd f A R wr) (fun q => ∃ (f' : Nat → Int32) (A' : Nat → List Int32) (r : Int32), q = (some (.int r), cd f' A' R wr, 0, 0) ∧ CI f' A' R ∧ (∀ k : Nat, k ≠ 529 → k ≠ 530 → f' k = f k) ∧ (∀ k : Nat, k ≠ 39 → k ≠ 40 → k ≠ 41 → A' k = A k) ∧ ((r = 0 ∧ True) ∨ (r = 1 ∧ True))) := by
  have bv := VV_b hv
  have brw := RR_b hrw
  show pmE pg X pg_tyl pg_cl (d + 4) 75 0 [.ref 33, .ref rw, .int x2, pm_dead, pm_dead, pm_dead] [] (cd f A R wr) _
  refine pe_aload_n (j := 1) (by decide +kernel) rfl ?_
  refine pe_iload_n (j := 2) (by decide +kernel) rfl ?_
  refine pe_iconstv (n := 1) (v := 1) (by decide +kernel) (by decide +kernel) ?_
  refine pi_V (j := 59) (mj := 68) (by decide +kernel) (cll_V (args := [.int 1, .int x2]) (n := 2) (by decide +kernel) rfl rfl (cr_o hrw) (by decide +kernel) (Nat.le_of_ble_eq_true rfl) (Nat.le_of_ble_eq_true rfl)) ?_
  show pmE pg X pg_tyl pg_cl (d + 3) 68 0 [.ref rw, .int x2, .int 1] [] (cd f A R wr) _
  refine pe_aload_n (j := 0) (by decide +kernel) rfl ?_
  refine pe_get (j := 9) (ci := 5) (n := 1) (by decide +kernel) (by decide +kernel) (cr_o hrw) rfl ?_
  refine pe_iload_n (j := 1) (by decide +kernel) rfl ?_
  refine pe_bipushv (n := 9) (v := 9) (by decide +kernel) (by decide +kernel) ?_
  refine pz_mul (by decide +kernel) rfl kz_9 (by omega) (by omega) (fun z1 hz1 => ?_)
  refine pe_iload_n (j := 2) (by decide +kernel) rfl ?_
  refine pz_add (by decide +kernel) hz1 kz_1 (by omega) (by omega) (fun z2 hz2 => ?_)
  clear hz1
  refine pz_iald (by decide +kernel) (cr_a1 hrw) (cr_l1 hrw hI) hz2 (by omega) (by omega) (fun v3 ev3 => ?_)
  clear hz2
  refine pe_iret (by decide +kernel) rfl rfl ⟨rfl, rfl, ?_⟩
  show pmE pg X pg_tyl pg_cl (d + 4) 75 6 [.ref 33, .ref rw, .int x2, pm_dead, pm_dead, pm_dead] [.int v3] (cd f A R wr) _
  refine pe_istore_n (j := 3) (ls' := [.ref 33, .ref rw, .int x2, .int v3, pm_dead, pm_dead]) (by decide +kernel) (Nat.le_of_ble_eq_true rfl) rfl ?_
  refine pe_aload_n (j := 1) (by decide +kernel) rfl ?_
  refine pe_iload_n (j := 2) (by decide +kernel) rfl ?_
  refine pe_iconstv (n := 2) (v := 2) (by decide +kernel) (by decide +kernel) ?_
  refine pi_V (j := 59) (mj := 68) (by decide +kernel) (cll_V (args := [.int 2, .int x2]) (n := 2) (by decide +kernel) rfl rfl (cr_o hrw) (by decide +kernel) (Nat.le_of_ble_eq_true rfl) (Nat.le_of_ble_eq_true rfl)) ?_
  show pmE pg X pg_tyl pg_cl (d + 3) 68 0 [.ref rw, .int x2, .int 2] [] (cd f A R wr) _
  refine pe_aload_n (j := 0) (by decide +kernel) rfl ?_
  refine pe_get (j := 9) (ci := 5) (n := 1) (by decide +kernel) (by decide +kernel) (cr_o hrw) rfl ?_
  refine pe_iload_n (j := 1) (by decide +kernel) rfl ?_
  refine pe_bipushv (n := 9) (v := 9) (by decide +kernel) (by decide +kernel) ?_
  refine pz_mul (by decide +kernel) rfl kz_9 (by omega) (by omega) (fun z4 hz4 => ?_)
  refine pe_iload_n (j := 2) (by decide +kernel) rfl ?_
  refine pz_add (by decide +kernel) hz4 kz_2 (by omega) (by omega) (fun z5 hz5 => ?_)
  clear hz4
  refine pz_iald (by decide +kernel) (cr_a1 hrw) (cr_l1 hrw hI) hz5 (by omega) (by omega) (fun v6 ev6 => ?_)
  clear hz5
  refine pe_iret (by decide +kernel) rfl rfl ⟨rfl, rfl, ?_⟩
  show pmE pg X pg_tyl pg_cl (d + 4) 75 13 [.ref 33, .ref rw, .int x2, .int v3, pm_dead, pm_dead] [.int v6] (cd f A R wr) _
  refine pe_istore (j := 4) (ls' := [.ref 33, .ref rw, .int x2, .int v3, .int v6, pm_dead]) (by decide +kernel) (Nat.le_of_ble_eq_true rfl) rfl ?_
  refine pe_aload_n (j := 1) (by decide +kernel) rfl ?_
  refine pe_iload_n (j := 2) (by decide +kernel) rfl ?_
  refine pe_iconstv (n := 3) (v := 3) (by decide +kernel) (by decide +kernel) ?_
  refine pi_V (j := 59) (mj := 68) (by decide +kernel) (cll_V (args := [.int 3, .int x2]) (n := 2) (by decide +kernel) rfl rfl (cr_o hrw) (by decide +kernel) (Nat.le_of_ble_eq_true rfl) (Nat.le_of_ble_eq_true rfl)) ?_
  show pmE pg X pg_tyl pg_cl (d + 3) 68 0 [.ref rw, .int x2, .int 3] [] (cd f A R wr) _
  refine pe_aload_n (j := 0) (by decide +kernel) rfl ?_
  refine pe_get (j := 9) (ci := 5) (n := 1) (by decide +kernel) (by decide +kernel) (cr_o hrw) rfl ?_
  refine pe_iload_n (j := 1) (by decide +kernel) rfl ?_
  refine pe_bipushv (n := 9) (v := 9) (by decide +kernel) (by decide +kernel) ?_
  refine pz_mul (by decide +kernel) rfl kz_9 (by omega) (by omega) (fun z7 hz7 => ?_)
  refine pe_iload_n (j := 2) (by decide +kernel) rfl ?_
  refine pz_add (by decide +kernel) hz7 kz_3 (by omega) (by omega) (fun z8 hz8 => ?_)
  clear hz7
  refine pz_iald (by decide +kernel) (cr_a1 hrw) (cr_l1 hrw hI) hz8 (by omega) (by omega) (fun v9 ev9 => ?_)
  clear hz8
  refine pe_iret (by decide +kernel) rfl rfl ⟨rfl, rfl, ?_⟩
  show pmE pg X pg_tyl pg_cl (d + 4) 75 21 [.ref 33, .ref rw, .int x2, .int v3, .int v6, pm_dead] [.int v9] (cd f A R wr) _
  refine pe_istore (j := 5) (ls' := [.ref 33, .ref rw, .int x2, .int v3, .int v6, .int v9]) (by decide +kernel) (Nat.le_of_ble_eq_true rfl) rfl ?_
  refine pe_aload_n (j := 1) (by decide +kernel) rfl ?_
  refine pe_iload_n (j := 2) (by decide +kernel) rfl ?_
  refine pe_iconstv (n := 0) (v := 0) (by decide +kernel) (by decide +kernel) ?_
  refine pi_V (j := 59) (mj := 68) (by decide +kernel) (cll_V (args := [.int 0, .int x2]) (n := 2) (by decide +kernel) rfl rfl (cr_o hrw) (by decide +kernel) (Nat.le_of_ble_eq_true rfl) (Nat.le_of_ble_eq_true rfl)) ?_
  show pmE pg X pg_tyl pg_cl (d + 3) 68 0 [.ref rw, .int x2, .int 0] [] (cd f A R wr) _
  refine pe_aload_n (j := 0) (by decide +kernel) rfl ?_
  refine pe_get (j := 9) (ci := 5) (n := 1) (by decide +kernel) (by decide +kernel) (cr_o hrw) rfl ?_
  refine pe_iload_n (j := 1) (by decide +kernel) rfl ?_
  refine pe_bipushv (n := 9) (v := 9) (by decide +kernel) (by decide +kernel) ?_
  refine pz_mul (by decide +kernel) rfl kz_9 (by omega) (by omega) (fun z10 hz10 => ?_)
  refine pe_iload_n (j := 2) (by decide +kernel) rfl ?_
  refine pz_add (by decide +kernel) hz10 kz_0 (by omega) (by omega) (fun z11 hz11 => ?_)
  clear hz10
  refine pz_iald (by decide +kernel) (cr_a1 hrw) (cr_l1 hrw hI) hz11 (by omega) (by omega) (fun v12 ev12 => ?_)
  clear hz11
  refine pe_iret (by decide +kernel) rfl rfl ⟨rfl, rfl, ?_⟩
  show pmE pg X pg_tyl pg_cl (d + 4) 75 29 [.ref 33, .ref rw, .int x2, .int v3, .int v6, .int v9] [.int v12] (cd f A R wr) _
  by_cases h13 : v12.toInt = 0
  · skip
    refine pe_tableIn (df := 74) (lo := 0) (hi := 4) (off := 35) (offs := #[35, 45, 55, 62, 68]) (t := 64) (by decide +kernel) (by omega) (by rw [h13]; rfl) (by decide) rfl ?_
    refine pe_aload_n (j := 0) (by decide +kernel) rfl ?_
    refine pe_iload_n (j := 3) (by decide +kernel) rfl ?_
    refine pe_iload (j := 4) (by decide +kernel) rfl ?_
    refine pe_iload (j := 5) (by decide +kernel) rfl ?_
    refine pi_V (j := 64) (mj := 76) (by decide +kernel) (cll_V (args := [.int v9, .int v6, .int v3]) (n := 3) (by decide +kernel) rfl rfl cd_o33 (by decide +kernel) (Nat.le_of_ble_eq_true rfl) (Nat.le_of_ble_eq_true rfl)) ?_
    show pmE pg X pg_tyl pg_cl (d + 3) 76 0 [.ref 33, .int v3, .int v6, .int v9] [] (cd f A R wr) _
    refine pe_aload_n (j := 0) (by decide +kernel) rfl ?_
    refine pe_get (j := 12) (ci := 7) (n := 0) (by decide +kernel) (by decide +kernel) cd_o33 rfl ?_
    refine pe_topV (v := .ref v) (hR0) ?_
    refine pe_iload_n (j := 1) (by decide +kernel) rfl ?_
    refine pi_V (j := 86) (mj := 61) (by decide +kernel) (cll_V (args := [.int v3]) (n := 1) (by decide +kernel) rfl rfl (cv_o hv) (by decide +kernel) (Nat.le_of_ble_eq_true rfl) (Nat.le_of_ble_eq_true rfl)) ?_
    show pmE pg X pg_tyl pg_cl (d + 2) 61 0 [.ref v, .int v3] [] (cd f A R wr) _
    refine pe_iload_n (j := 1) (by decide +kernel) rfl ?_
    have lw15 := zi_lo v3
    have uw15 := zi_hi v3
    refine pz_if_lt (off := 15) (t := 16) (by decide +kernel) (by decide) rfl rfl (fun h14 => ?_) (fun h14 => ?_)
    · skip
      refine pe_iconstv (n := 0) (v := 0) (by decide +kernel) (by decide +kernel) ?_
      refine pe_iret (by decide +kernel) rfl rfl ⟨rfl, rfl, ?_⟩
      show pmE pg X pg_tyl pg_cl (d + 3) 76 8 [.ref 33, .int v3, .int v6, .int v9] [.int 0] (cd f A R wr) _
      refine pz_if_eq (off := 24) (t := 32) (by decide +kernel) (by decide) rfl kz_0 (fun h16 => ?_) (fun h16 => by omega)
      refine pe_iconstv (n := 0) (v := 0) (by decide +kernel) (by decide +kernel) ?_
      refine pe_iret (by decide +kernel) rfl rfl ⟨rfl, rfl, ?_⟩
      show pmE pg X pg_tyl pg_cl (d + 4) 75 73 [.ref 33, .ref rw, .int x2, .int v3, .int v6, .int v9] [.int 0] (cd f A R wr) _
      exact pe_iret (by decide +kernel) rfl rfl ⟨f, A, 0, rfl, hI, (fun k n529 n530 => rfl), (fun k n39 n40 n41 => rfl), Or.inl ⟨rfl, trivial⟩⟩
    · skip
      refine pe_iload_n (j := 1) (by decide +kernel) rfl ?_
      refine pe_aload_n (j := 0) (by decide +kernel) rfl ?_
      refine pe_get (j := 9) (ci := 9) (n := 0) (by decide +kernel) (by decide +kernel) (cv_o hv) rfl ?_
      have hr_f_16v := cv_people hv hI
      refine pz_icmp_ge (off := 7) (t := 16) (by decide +kernel) (by decide) rfl rfl rfl (fun h17 => ?_) (fun h17 => ?_)
      · skip
        refine pe_iconstv (n := 0) (v := 0) (by decide +kernel) (by decide +kernel) ?_
        refine pe_iret (by decide +kernel) rfl rfl ⟨rfl, rfl, ?_⟩
        show pmE pg X pg_tyl pg_cl (d + 3) 76 8 [.ref 33, .int v3, .int v6, .int v9] [.int 0] (cd f A R wr) _
        refine pz_if_eq (off := 24) (t := 32) (by decide +kernel) (by decide) rfl kz_0 (fun h18 => ?_) (fun h18 => by omega)
        refine pe_iconstv (n := 0) (v := 0) (by decide +kernel) (by decide +kernel) ?_
        refine pe_iret (by decide +kernel) rfl rfl ⟨rfl, rfl, ?_⟩
        show pmE pg X pg_tyl pg_cl (d + 4) 75 73 [.ref 33, .ref rw, .int x2, .int v3, .int v6, .int v9] [.int 0] (cd f A R wr) _
        exact pe_iret (by decide +kernel) rfl rfl ⟨f, A, 0, rfl, hI, (fun k n529 n530 => rfl), (fun k n39 n40 n41 => rfl), Or.inl ⟨rfl, trivial⟩⟩
      · skip
        refine pe_iconstv (n := 1) (v := 1) (by decide +kernel) (by decide +kernel) ?_
        refine pe_goto (off := 4) (t := 17) (by decide +kernel) (by decide) rfl ?_
        refine pe_iret (by decide +kernel) rfl rfl ⟨rfl, rfl, ?_⟩
        show pmE pg X pg_tyl pg_cl (d + 3) 76 8 [.ref 33, .int v3, .int v6, .int v9] [.int 1] (cd f A R wr) _
        refine pz_if_eq (off := 24) (t := 32) (by decide +kernel) (by decide) rfl kz_1 (fun h19 => by omega) (fun h19 => ?_)
        refine pe_aload_n (j := 0) (by decide +kernel) rfl ?_
        refine pe_get (j := 12) (ci := 7) (n := 0) (by decide +kernel) (by decide +kernel) cd_o33 rfl ?_
        refine pe_topV (v := .ref v) (hR0) ?_
        refine pe_iload_n (j := 2) (by decide +kernel) rfl ?_
        refine pi_V (j := 86) (mj := 61) (by decide +kernel) (cll_V (args := [.int v6]) (n := 1) (by decide +kernel) rfl rfl (cv_o hv) (by decide +kernel) (Nat.le_of_ble_eq_true rfl) (Nat.le_of_ble_eq_true rfl)) ?_
        show pmE pg X pg_tyl pg_cl (d + 2) 61 0 [.ref v, .int v6] [] (cd f A R wr) _
        refine pe_iload_n (j := 1) (by decide +kernel) rfl ?_
        have lw21 := zi_lo v6
        have uw21 := zi_hi v6
        refine pz_if_lt (off := 15) (t := 16) (by decide +kernel) (by decide) rfl rfl (fun h20 => ?_) (fun h20 => ?_)
        · skip
          refine pe_iconstv (n := 0) (v := 0) (by decide +kernel) (by decide +kernel) ?_
          refine pe_iret (by decide +kernel) rfl rfl ⟨rfl, rfl, ?_⟩
          show pmE pg X pg_tyl pg_cl (d + 3) 76 19 [.ref 33, .int v3, .int v6, .int v9] [.int 0] (cd f A R wr) _
          refine pz_if_eq (off := 13) (t := 32) (by decide +kernel) (by decide) rfl kz_0 (fun h22 => ?_) (fun h22 => by omega)
          refine pe_iconstv (n := 0) (v := 0) (by decide +kernel) (by decide +kernel) ?_
          refine pe_iret (by decide +kernel) rfl rfl ⟨rfl, rfl, ?_⟩
          show pmE pg X pg_tyl pg_cl (d + 4) 75 73 [.ref 33, .ref rw, .int x2, .int v3, .int v6, .int v9] [.int 0] (cd f A R wr) _
          exact pe_iret (by decide +kernel) rfl rfl ⟨f, A, 0, rfl, hI, (fun k n529 n530 => rfl), (fun k n39 n40 n41 => rfl), Or.inl ⟨rfl, trivial⟩⟩
        · skip
          refine pe_iload_n (j := 1) (by decide +kernel) rfl ?_
          refine pe_aload_n (j := 0) (by decide +kernel) rfl ?_
          refine pe_get (j := 9) (ci := 9) (n := 0) (by decide +kernel) (by decide +kernel) (cv_o hv) rfl ?_
          refine pz_icmp_ge (off := 7) (t := 16) (by decide +kernel) (by decide) rfl rfl rfl (fun h23 => ?_) (fun h23 => ?_)
          · skip
            refine pe_iconstv (n := 0) (v := 0) (by decide +kernel) (by decide +kernel) ?_
            refine pe_iret (by decide +kernel) rfl rfl ⟨rfl, rfl, ?_⟩
            show pmE pg X pg_tyl pg_cl (d + 3) 76 19 [.ref 33, .int v3, .int v6, .int v9] [.int 0] (cd f A R wr) _
            refine pz_if_eq (off := 13) (t := 32) (by decide +kernel) (by decide) rfl kz_0 (fun h24 => ?_) (fun h24 => by omega)
            refine pe_iconstv (n := 0) (v := 0) (by decide +kernel) (by decide +kernel) ?_
            refine pe_iret (by decide +kernel) rfl rfl ⟨rfl, rfl, ?_⟩
            show pmE pg X pg_tyl pg_cl (d + 4) 75 73 [.ref 33, .ref rw, .int x2, .int v3, .int v6, .int v9] [.int 0] (cd f A R wr) _
            exact pe_iret (by decide +kernel) rfl rfl ⟨f, A, 0, rfl, hI, (fun k n529 n530 => rfl), (fun k n39 n40 n41 => rfl), Or.inl ⟨rfl, trivial⟩⟩
          · skip
            refine pe_iconstv (n := 1) (v := 1) (by decide +kernel) (by decide +kernel) ?_
            refine pe_goto (off := 4) (t := 17) (by decide +kernel) (by decide) rfl ?_
            refine pe_iret (by decide +kernel) rfl rfl ⟨rfl, rfl, ?_⟩
            show pmE pg X pg_tyl pg_cl (d + 3) 76 19 [.ref 33, .int v3, .int v6, .int v9] [.int 1] (cd f A R wr) _
            refine pz_if_eq (off := 13) (t := 32) (by decide +kernel) (by decide) rfl kz_1 (fun h25 => by omega) (fun h25 => ?_)
            refine pe_aload_n (j := 0) (by decide +kernel) rfl ?_
            refine pe_iload_n (j := 1) (by decide +kernel) rfl ?_
            refine pe_iload_n (j := 2) (by decide +kernel) rfl ?_
            refine pz_callV (j := 89) (mj := 77) (by decide +kernel) (cll_V (args := [.int v6, .int v3]) (n := 2) (by decide +kernel) rfl rfl cd_o33 (by decide +kernel) (Nat.le_of_ble_eq_true rfl) (Nat.le_of_ble_eq_true rfl)) (CM_77 hX hI hv (hR0) (by omega) (by omega)) (fun q26a q26b q26c q26d hqq26 => ?_)
            obtain ⟨rq26, eq26, kq26⟩ := hqq26
            cases eq26
            refine ⟨rfl, rfl, ?_⟩
            show pmE pg X pg_tyl pg_cl (d + 3) 76 28 [.ref 33, .int v3, .int v6, .int v9] [.int rq26] (cd f A R wr) _
            refine pe_iload_n (j := 3) (by decide +kernel) rfl ?_
            have lw28 := zi_lo rq26
            have uw28 := zi_hi rq26
            have lw29 := zi_lo v9
            have uw29 := zi_hi v9
            refine pz_icmp_ge (off := 5) (t := 34) (by decide +kernel) (by decide) rfl rfl rfl (fun h27 => ?_) (fun h27 => ?_)
            · skip
              refine pe_aload_n (j := 0) (by decide +kernel) rfl ?_
              refine pe_get (j := 18) (ci := 7) (n := 3) (by decide +kernel) (by decide +kernel) cd_o33 rfl ?_
              refine pe_iload_n (j := 1) (by decide +kernel) rfl ?_
              refine pe_iload_n (j := 2) (by decide +kernel) rfl ?_
              refine pi_S (j := 50) (mj := 52) (by decide +kernel) (by decide +kernel) rfl ?_
              show pmE pg X pg_tyl pg_cl (d + 2) 52 0 [.int v3, .int v6] [] (cd f A R wr) _
              refine pe_iload_n (j := 0) (by decide +kernel) rfl ?_
              refine pe_bipushv (n := 9) (v := 9) (by decide +kernel) (by decide +kernel) ?_
              refine pz_mul (by decide +kernel) rfl kz_9 (by omega) (by omega) (fun z30 hz30 => ?_)
              refine pe_iload_n (j := 1) (by decide +kernel) rfl ?_
              refine pz_add (by decide +kernel) hz30 rfl (by omega) (by omega) (fun z31 hz31 => ?_)
              clear hz30
              refine pe_iret (by decide +kernel) rfl rfl ⟨rfl, rfl, ?_⟩
              show pmE pg X pg_tyl pg_cl (d + 3) 76 43 [.ref 33, .int v3, .int v6, .int v9] [.int z31, .ref 39] (cd f A R wr) _
              refine pe_dup2 (by decide +kernel) ⟨rfl, rfl⟩ ?_
              refine pz_iald (by decide +kernel) cd_a39 (cl_39 hI) hz31 (by omega) (by omega) (fun v32 ev32 => ?_)
              refine pe_iload_n (j := 3) (by decide +kernel) rfl ?_
              refine pw_add (by decide +kernel) (fun z33 => ?_)
              refine cz_st39 (by decide +kernel) hI hz31 (by omega) (by omega) (fun A34 eA34 hIA34 => ?_)
              refine pe_iconstv (n := 1) (v := 1) (by decide +kernel) (by decide +kernel) ?_
              refine pe_iret (by decide +kernel) rfl rfl ⟨rfl, rfl, ?_⟩
              show pmE pg X pg_tyl pg_cl (d + 4) 75 73 [.ref 33, .ref rw, .int x2, .int v3, .int v6, .int v9] [.int 1] (cd f A34 R wr) _
              exact pe_iret (by decide +kernel) rfl rfl ⟨f, A34, 1, rfl, hIA34, (fun k n529 n530 => rfl), (fun k n39 n40 n41 => upa_fr eA34 n39), Or.inr (⟨rfl, trivial⟩)⟩
            · skip
              refine pe_iconstv (n := 0) (v := 0) (by decide +kernel) (by decide +kernel) ?_
              refine pe_iret (by decide +kernel) rfl rfl ⟨rfl, rfl, ?_⟩
              show pmE pg X pg_tyl pg_cl (d + 4) 75 73 [.ref 33, .ref rw, .int x2, .int v3, .int v6, .int v9] [.int 0] (cd f A R wr) _
              exact pe_iret (by decide +kernel) rfl rfl ⟨f, A, 0, rfl, hI, (fun k n529 n530 => rfl), (fun k n39 n40 n41 => rfl), Or.inl ⟨rfl, trivial⟩⟩
  · skip
    by_cases h35 : v12.toInt = 1
    · skip
      refine pe_tableIn (df := 74) (lo := 0) (hi := 4) (off := 45) (offs := #[35, 45, 55, 62, 68]) (t := 74) (by decide +kernel) (by omega) (by rw [h35]; rfl) (by decide) rfl ?_
      refine pe_aload_n (j := 0) (by decide +kernel) rfl ?_
      refine pe_iload_n (j := 3) (by decide +kernel) rfl ?_
      refine pe_iload (j := 4) (by decide +kernel) rfl ?_
      refine pe_iload (j := 5) (by decide +kernel) rfl ?_
      refine pi_V (j := 68) (mj := 78) (by decide +kernel) (cll_V (args := [.int v9, .int v6, .int v3]) (n := 3) (by decide +kernel) rfl rfl cd_o33 (by decide +kernel) (Nat.le_of_ble_eq_true rfl) (Nat.le_of_ble_eq_true rfl)) ?_
      show pmE pg X pg_tyl pg_cl (d + 3) 78 0 [.ref 33, .int v3, .int v6, .int v9] [] (cd f A R wr) _
      refine pe_aload_n (j := 0) (by decide +kernel) rfl ?_
      refine pe_get (j := 12) (ci := 7) (n := 0) (by decide +kernel) (by decide +kernel) cd_o33 rfl ?_
      refine pe_topV (v := .ref v) (hR0) ?_
      refine pe_iload_n (j := 1) (by decide +kernel) rfl ?_
      refine pi_V (j := 86) (mj := 61) (by decide +kernel) (cll_V (args := [.int v3]) (n := 1) (by decide +kernel) rfl rfl (cv_o hv) (by decide +kernel) (Nat.le_of_ble_eq_true rfl) (Nat.le_of_ble_eq_true rfl)) ?_
      show pmE pg X pg_tyl pg_cl (d + 2) 61 0 [.ref v, .int v3] [] (cd f A R wr) _
      refine pe_iload_n (j := 1) (by decide +kernel) rfl ?_
      have lw37 := zi_lo v3
      have uw37 := zi_hi v3
      refine pz_if_lt (off := 15) (t := 16) (by decide +kernel) (by decide) rfl rfl (fun h36 => ?_) (fun h36 => ?_)
      · skip
        refine pe_iconstv (n := 0) (v := 0) (by decide +kernel) (by decide +kernel) ?_
        refine pe_iret (by decide +kernel) rfl rfl ⟨rfl, rfl, ?_⟩
        show pmE pg X pg_tyl pg_cl (d + 3) 78 8 [.ref 33, .int v3, .int v6, .int v9] [.int 0] (cd f A R wr) _
        refine pz_if_eq (off := 28) (t := 36) (by decide +kernel) (by decide) rfl kz_0 (fun h38 => ?_) (fun h38 => by omega)
        refine pe_iconstv (n := 0) (v := 0) (by decide +kernel) (by decide +kernel) ?_
        refine pe_iret (by decide +kernel) rfl rfl ⟨rfl, rfl, ?_⟩
        show pmE pg X pg_tyl pg_cl (d + 4) 75 83 [.ref 33, .ref rw, .int x2, .int v3, .int v6, .int v9] [.int 0] (cd f A R wr) _
        exact pe_iret (by decide +kernel) rfl rfl ⟨f, A, 0, rfl, hI, (fun k n529 n530 => rfl), (fun k n39 n40 n41 => rfl), Or.inl ⟨rfl, trivial⟩⟩
      · skip
        refine pe_iload_n (j := 1) (by decide +kernel) rfl ?_
        refine pe_aload_n (j := 0) (by decide +kernel) rfl ?_
        refine pe_get (j := 9) (ci := 9) (n := 0) (by decide +kernel) (by decide +kernel) (cv_o hv) rfl ?_
        have hr_f_16v := cv_people hv hI
        refine pz_icmp_ge (off := 7) (t := 16) (by decide +kernel) (by decide) rfl rfl rfl (fun h39 => ?_) (fun h39 => ?_)
        · skip
          refine pe_iconstv (n := 0) (v := 0) (by decide +kernel) (by decide +kernel) ?_
          refine pe_iret (by decide +kernel) rfl rfl ⟨rfl, rfl, ?_⟩
          show pmE pg X pg_tyl pg_cl (d + 3) 78 8 [.ref 33, .int v3, .int v6, .int v9] [.int 0] (cd f A R wr) _
          refine pz_if_eq (off := 28) (t := 36) (by decide +kernel) (by decide) rfl kz_0 (fun h40 => ?_) (fun h40 => by omega)
          refine pe_iconstv (n := 0) (v := 0) (by decide +kernel) (by decide +kernel) ?_
          refine pe_iret (by decide +kernel) rfl rfl ⟨rfl, rfl, ?_⟩
          show pmE pg X pg_tyl pg_cl (d + 4) 75 83 [.ref 33, .ref rw, .int x2, .int v3, .int v6, .int v9] [.int 0] (cd f A R wr) _
          exact pe_iret (by decide +kernel) rfl rfl ⟨f, A, 0, rfl, hI, (fun k n529 n530 => rfl), (fun k n39 n40 n41 => rfl), Or.inl ⟨rfl, trivial⟩⟩
        · skip
          refine pe_iconstv (n := 1) (v := 1) (by decide +kernel) (by decide +kernel) ?_
          refine pe_goto (off := 4) (t := 17) (by decide +kernel) (by decide) rfl ?_
          refine pe_iret (by decide +kernel) rfl rfl ⟨rfl, rfl, ?_⟩
          show pmE pg X pg_tyl pg_cl (d + 3) 78 8 [.ref 33, .int v3, .int v6, .int v9] [.int 1] (cd f A R wr) _
          refine pz_if_eq (off := 28) (t := 36) (by decide +kernel) (by decide) rfl kz_1 (fun h41 => by omega) (fun h41 => ?_)
          refine pe_aload_n (j := 0) (by decide +kernel) rfl ?_
          refine pe_get (j := 12) (ci := 7) (n := 0) (by decide +kernel) (by decide +kernel) cd_o33 rfl ?_
          refine pe_topV (v := .ref v) (hR0) ?_
          refine pe_iload_n (j := 2) (by decide +kernel) rfl ?_
          refine pi_V (j := 86) (mj := 61) (by decide +kernel) (cll_V (args := [.int v6]) (n := 1) (by decide +kernel) rfl rfl (cv_o hv) (by decide +kernel) (Nat.le_of_ble_eq_true rfl) (Nat.le_of_ble_eq_true rfl)) ?_
          show pmE pg X pg_tyl pg_cl (d + 2) 61 0 [.ref v, .int v6] [] (cd f A R wr) _
          refine pe_iload_n (j := 1) (by decide +kernel) rfl ?_
          have lw43 := zi_lo v6
          have uw43 := zi_hi v6
          refine pz_if_lt (off := 15) (t := 16) (by decide +kernel) (by decide) rfl rfl (fun h42 => ?_) (fun h42 => ?_)
          · skip
            refine pe_iconstv (n := 0) (v := 0) (by decide +kernel) (by decide +kernel) ?_
            refine pe_iret (by decide +kernel) rfl rfl ⟨rfl, rfl, ?_⟩
            show pmE pg X pg_tyl pg_cl (d + 3) 78 19 [.ref 33, .int v3, .int v6, .int v9] [.int 0] (cd f A R wr) _
            refine pz_if_eq (off := 17) (t := 36) (by decide +kernel) (by decide) rfl kz_0 (fun h44 => ?_) (fun h44 => by omega)
            refine pe_iconstv (n := 0) (v := 0) (by decide +kernel) (by decide +kernel) ?_
            refine pe_iret (by decide +kernel) rfl rfl ⟨rfl, rfl, ?_⟩
            show pmE pg X pg_tyl pg_cl (d + 4) 75 83 [.ref 33, .ref rw, .int x2, .int v3, .int v6, .int v9] [.int 0] (cd f A R wr) _
            exact pe_iret (by decide +kernel) rfl rfl ⟨f, A, 0, rfl, hI, (fun k n529 n530 => rfl), (fun k n39 n40 n41 => rfl), Or.inl ⟨rfl, trivial⟩⟩
          · skip
            refine pe_iload_n (j := 1) (by decide +kernel) rfl ?_
            refine pe_aload_n (j := 0) (by decide +kernel) rfl ?_
            refine pe_get (j := 9) (ci := 9) (n := 0) (by decide +kernel) (by decide +kernel) (cv_o hv) rfl ?_
            refine pz_icmp_ge (off := 7) (t := 16) (by decide +kernel) (by decide) rfl rfl rfl (fun h45 => ?_) (fun h45 => ?_)
            · skip
              refine pe_iconstv (n := 0) (v := 0) (by decide +kernel) (by decide +kernel) ?_
              refine pe_iret (by decide +kernel) rfl rfl ⟨rfl, rfl, ?_⟩
              show pmE pg X pg_tyl pg_cl (d + 3) 78 19 [.ref 33, .int v3, .int v6, .int v9] [.int 0] (cd f A R wr) _
              refine pz_if_eq (off := 17) (t := 36) (by decide +kernel) (by decide) rfl kz_0 (fun h46 => ?_) (fun h46 => by omega)
              refine pe_iconstv (n := 0) (v := 0) (by decide +kernel) (by decide +kernel) ?_
              refine pe_iret (by decide +kernel) rfl rfl ⟨rfl, rfl, ?_⟩
              show pmE pg X pg_tyl pg_cl (d + 4) 75 83 [.ref 33, .ref rw, .int x2, .int v3, .int v6, .int v9] [.int 0] (cd f A R wr) _
              exact pe_iret (by decide +kernel) rfl rfl ⟨f, A, 0, rfl, hI, (fun k n529 n530 => rfl), (fun k n39 n40 n41 => rfl), Or.inl ⟨rfl, trivial⟩⟩
            · skip
              refine pe_iconstv (n := 1) (v := 1) (by decide +kernel) (by decide +kernel) ?_
              refine pe_goto (off := 4) (t := 17) (by decide +kernel) (by decide) rfl ?_
              refine pe_iret (by decide +kernel) rfl rfl ⟨rfl, rfl, ?_⟩
              show pmE pg X pg_tyl pg_cl (d + 3) 78 19 [.ref 33, .int v3, .int v6, .int v9] [.int 1] (cd f A R wr) _
              refine pz_if_eq (off := 17) (t := 36) (by decide +kernel) (by decide) rfl kz_1 (fun h47 => by omega) (fun h47 => ?_)
              refine pe_aload_n (j := 0) (by decide +kernel) rfl ?_
              refine pe_get (j := 18) (ci := 7) (n := 3) (by decide +kernel) (by decide +kernel) cd_o33 rfl ?_
              refine pe_iload_n (j := 1) (by decide +kernel) rfl ?_
              refine pe_iload_n (j := 2) (by decide +kernel) rfl ?_
              refine pi_S (j := 50) (mj := 52) (by decide +kernel) (by decide +kernel) rfl ?_
              show pmE pg X pg_tyl pg_cl (d + 2) 52 0 [.int v3, .int v6] [] (cd f A R wr) _
              refine pe_iload_n (j := 0) (by decide +kernel) rfl ?_
              refine pe_bipushv (n := 9) (v := 9) (by decide +kernel) (by decide +kernel) ?_
              refine pz_mul (by decide +kernel) rfl kz_9 (by omega) (by omega) (fun z48 hz48 => ?_)
              refine pe_iload_n (j := 1) (by decide +kernel) rfl ?_
              refine pz_add (by decide +kernel) hz48 rfl (by omega) (by omega) (fun z49 hz49 => ?_)
              clear hz48
              refine pe_iret (by decide +kernel) rfl rfl ⟨rfl, rfl, ?_⟩
              show pmE pg X pg_tyl pg_cl (d + 3) 78 31 [.ref 33, .int v3, .int v6, .int v9] [.int z49, .ref 39] (cd f A R wr) _
              refine pz_iald (by decide +kernel) cd_a39 (cl_39 hI) hz49 (by omega) (by omega) (fun v50 ev50 => ?_)
              clear hz49
              refine pe_iload_n (j := 3) (by decide +kernel) rfl ?_
              have lw52 := zi_lo v50
              have uw52 := zi_hi v50
              have lw53 := zi_lo v9
              have uw53 := zi_hi v9
              refine pz_icmp_ge (off := 5) (t := 38) (by decide +kernel) (by decide) rfl rfl rfl (fun h51 => ?_) (fun h51 => ?_)
              · skip
                refine pe_aload_n (j := 0) (by decide +kernel) rfl ?_
                refine pe_get (j := 18) (ci := 7) (n := 3) (by decide +kernel) (by decide +kernel) cd_o33 rfl ?_
                refine pe_iload_n (j := 1) (by decide +kernel) rfl ?_
                refine pe_iload_n (j := 2) (by decide +kernel) rfl ?_
                refine pi_S (j := 50) (mj := 52) (by decide +kernel) (by decide +kernel) rfl ?_
                show pmE pg X pg_tyl pg_cl (d + 2) 52 0 [.int v3, .int v6] [] (cd f A R wr) _
                refine pe_iload_n (j := 0) (by decide +kernel) rfl ?_
                refine pe_bipushv (n := 9) (v := 9) (by decide +kernel) (by decide +kernel) ?_
                refine pz_mul (by decide +kernel) rfl kz_9 (by omega) (by omega) (fun z54 hz54 => ?_)
                refine pe_iload_n (j := 1) (by decide +kernel) rfl ?_
                refine pz_add (by decide +kernel) hz54 rfl (by omega) (by omega) (fun z55 hz55 => ?_)
                clear hz54
                refine pe_iret (by decide +kernel) rfl rfl ⟨rfl, rfl, ?_⟩
                show pmE pg X pg_tyl pg_cl (d + 3) 78 47 [.ref 33, .int v3, .int v6, .int v9] [.int z55, .ref 39] (cd f A R wr) _
                refine pe_dup2 (by decide +kernel) ⟨rfl, rfl⟩ ?_
                refine pz_iald (by decide +kernel) cd_a39 (cl_39 hI) hz55 (by omega) (by omega) (fun v56 ev56 => ?_)
                rw [ev56.trans ev50.symm]
                clear ev56 v56
                refine pe_iload_n (j := 3) (by decide +kernel) rfl ?_
                refine pw_sub (by decide +kernel) (fun z57 => ?_)
                refine cz_st39 (by decide +kernel) hI hz55 (by omega) (by omega) (fun A58 eA58 hIA58 => ?_)
                refine pe_iconstv (n := 1) (v := 1) (by decide +kernel) (by decide +kernel) ?_
                refine pe_iret (by decide +kernel) rfl rfl ⟨rfl, rfl, ?_⟩
                show pmE pg X pg_tyl pg_cl (d + 4) 75 83 [.ref 33, .ref rw, .int x2, .int v3, .int v6, .int v9] [.int 1] (cd f A58 R wr) _
                exact pe_iret (by decide +kernel) rfl rfl ⟨f, A58, 1, rfl, hIA58, (fun k n529 n530 => rfl), (fun k n39 n40 n41 => upa_fr eA58 n39), Or.inr (⟨rfl, trivial⟩)⟩
              · skip
                refine pe_iconstv (n := 0) (v := 0) (by decide +kernel) (by decide +kernel) ?_
                refine pe_iret (by decide +kernel) rfl rfl ⟨rfl, rfl, ?_⟩
                show pmE pg X pg_tyl pg_cl (d + 4) 75 83 [.ref 33, .ref rw, .int x2, .int v3, .int v6, .int v9] [.int 0] (cd f A R wr) _
                exact pe_iret (by decide +kernel) rfl rfl ⟨f, A, 0, rfl, hI, (fun k n529 n530 => rfl), (fun k n39 n40 n41 => rfl), Or.inl ⟨rfl, trivial⟩⟩
    · skip
      by_cases h59 : v12.toInt = 2
      · skip
        refine pe_tableIn (df := 74) (lo := 0) (hi := 4) (off := 55) (offs := #[35, 45, 55, 62, 68]) (t := 84) (by decide +kernel) (by omega) (by rw [h59]; rfl) (by decide) rfl ?_
        refine pe_aload_n (j := 0) (by decide +kernel) rfl ?_
        refine pe_aload_n (j := 1) (by decide +kernel) rfl ?_
        refine pe_iload_n (j := 2) (by decide +kernel) rfl ?_
        refine pz_callV (j := 71) (mj := 79) (by decide +kernel) (cll_V (args := [.int x2, .ref rw]) (n := 2) (by decide +kernel) rfl rfl cd_o33 (by decide +kernel) (Nat.le_of_ble_eq_true rfl) (Nat.le_of_ble_eq_true rfl)) (CM_79 hX hI hv hrw (hR0) (by omega)) (fun q60a q60b q60c q60d hqq60 => ?_)
        obtain ⟨f61, A62, rq60, eq60, hIq60, hGq60, hFq60, kq60⟩ := hqq60
        cases eq60
        refine ⟨rfl, rfl, ?_⟩
        rcases kq60 with kq60 | kq60
        · skip
          obtain ⟨erq60, kq60⟩ := kq60
          subst erq60
          show pmE pg X pg_tyl pg_cl (d + 4) 75 90 [.ref 33, .ref rw, .int x2, .int v3, .int v6, .int v9] [.int 0] (cd f61 A62 R wr) _
          exact pe_iret (by decide +kernel) rfl rfl ⟨f61, A62, 0, rfl, hIq60, (fun k n529 n530 => (hGq60 k n530)), (fun k n39 n40 n41 => (hFq60 k n39 n40 n41)), Or.inl ⟨rfl, trivial⟩⟩
        · skip
          obtain ⟨erq60, kq60⟩ := kq60
          subst erq60
          show pmE pg X pg_tyl pg_cl (d + 4) 75 90 [.ref 33, .ref rw, .int x2, .int v3, .int v6, .int v9] [.int 1] (cd f61 A62 R wr) _
          exact pe_iret (by decide +kernel) rfl rfl ⟨f61, A62, 1, rfl, hIq60, (fun k n529 n530 => (hGq60 k n530)), (fun k n39 n40 n41 => (hFq60 k n39 n40 n41)), Or.inr (⟨rfl, trivial⟩)⟩
      · skip
        by_cases h63 : v12.toInt = 3
        · skip
          refine pe_tableIn (df := 74) (lo := 0) (hi := 4) (off := 62) (offs := #[35, 45, 55, 62, 68]) (t := 91) (by decide +kernel) (by omega) (by rw [h63]; rfl) (by decide) rfl ?_
          refine pe_aload_n (j := 0) (by decide +kernel) rfl ?_
          refine pe_iload_n (j := 3) (by decide +kernel) rfl ?_
          refine pz_callV (j := 75) (mj := 82) (by decide +kernel) (cll_V (args := [.int v3]) (n := 1) (by decide +kernel) rfl rfl cd_o33 (by decide +kernel) (Nat.le_of_ble_eq_true rfl) (Nat.le_of_ble_eq_true rfl)) (CM_82 hX hI) (fun q64a q64b q64c q64d hqq64 => ?_)
          obtain ⟨A65, rq64, eq64, hIq64, hFq64, kq64⟩ := hqq64
          cases eq64
          refine ⟨rfl, rfl, ?_⟩
          rcases kq64 with kq64 | kq64
          · skip
            obtain ⟨erq64, kq64⟩ := kq64
            subst erq64
            show pmE pg X pg_tyl pg_cl (d + 4) 75 96 [.ref 33, .ref rw, .int x2, .int v3, .int v6, .int v9] [.int 0] (cd f A65 R wr) _
            exact pe_iret (by decide +kernel) rfl rfl ⟨f, A65, 0, rfl, hIq64, (fun k n529 n530 => rfl), (fun k n39 n40 n41 => (hFq64 k n39 n40)), Or.inl ⟨rfl, trivial⟩⟩
          · skip
            obtain ⟨erq64, kq64⟩ := kq64
            subst erq64
            show pmE pg X pg_tyl pg_cl (d + 4) 75 96 [.ref 33, .ref rw, .int x2, .int v3, .int v6, .int v9] [.int 1] (cd f A65 R wr) _
            exact pe_iret (by decide +kernel) rfl rfl ⟨f, A65, 1, rfl, hIq64, (fun k n529 n530 => rfl), (fun k n39 n40 n41 => (hFq64 k n39 n40)), Or.inr (⟨rfl, trivial⟩)⟩
        · skip
          by_cases h66 : v12.toInt = 4
          · skip
            refine pe_tableIn (df := 74) (lo := 0) (hi := 4) (off := 68) (offs := #[35, 45, 55, 62, 68]) (t := 97) (by decide +kernel) (by omega) (by rw [h66]; rfl) (by decide) rfl ?_
            refine pe_aload_n (j := 0) (by decide +kernel) rfl ?_
            refine pe_iload_n (j := 3) (by decide +kernel) rfl ?_
            refine pz_callV (j := 79) (mj := 86) (by decide +kernel) (cll_V (args := [.int v3]) (n := 1) (by decide +kernel) rfl rfl cd_o33 (by decide +kernel) (Nat.le_of_ble_eq_true rfl) (Nat.le_of_ble_eq_true rfl)) (CM_86 hX hI hv (hR0)) (fun q67a q67b q67c q67d hqq67 => ?_)
            obtain ⟨A68, rq67, eq67, hIq67, hFq67, kq67⟩ := hqq67
            cases eq67
            refine ⟨rfl, rfl, ?_⟩
            rcases kq67 with kq67 | kq67
            · skip
              obtain ⟨erq67, kq67⟩ := kq67
              subst erq67
              show pmE pg X pg_tyl pg_cl (d + 4) 75 102 [.ref 33, .ref rw, .int x2, .int v3, .int v6, .int v9] [.int 0] (cd f A68 R wr) _
              exact pe_iret (by decide +kernel) rfl rfl ⟨f, A68, 0, rfl, hIq67, (fun k n529 n530 => rfl), (fun k n39 n40 n41 => (hFq67 k n39 n40)), Or.inl ⟨rfl, trivial⟩⟩
            · skip
              obtain ⟨erq67, kq67⟩ := kq67
              subst erq67
              show pmE pg X pg_tyl pg_cl (d + 4) 75 102 [.ref 33, .ref rw, .int x2, .int v3, .int v6, .int v9] [.int 1] (cd f A68 R wr) _
              exact pe_iret (by decide +kernel) rfl rfl ⟨f, A68, 1, rfl, hIq67, (fun k n529 n530 => rfl), (fun k n39 n40 n41 => (hFq67 k n39 n40)), Or.inr (⟨rfl, trivial⟩)⟩
          · skip
            refine pe_tableOut (df := 74) (lo := 0) (hi := 4) (offs := #[35, 45, 55, 62, 68]) (t := 103) (by decide +kernel) (by omega) (by decide) rfl ?_
            refine pe_aload_n (j := 0) (by decide +kernel) rfl ?_
            refine pz_callV (j := 82) (mj := 90) (by decide +kernel) (cll_V (args := []) (n := 0) (by decide +kernel) rfl rfl cd_o33 (by decide +kernel) (Nat.le_of_ble_eq_true rfl) (Nat.le_of_ble_eq_true rfl)) (CM_90 hX hI) (fun q69a q69b q69c q69d hqq69 => ?_)
            obtain ⟨f70, A71, rq69, eq69, hIq69, hGq69, hFq69, kq69⟩ := hqq69
            cases eq69
            refine ⟨rfl, rfl, ?_⟩
            obtain ⟨erq69, kq69⟩ := kq69
            subst erq69
            show pmE pg X pg_tyl pg_cl (d + 4) 75 107 [.ref 33, .ref rw, .int x2, .int v3, .int v6, .int v9] [.int 1] (cd f70 A71 R wr) _
            exact pe_iret (by decide +kernel) rfl rfl ⟨f70, A71, 1, rfl, hIq69, (fun k n529 n530 => (hGq69 k n529)), (fun k n39 n40 n41 => (hFq69 k n39 n40)), Or.inr (⟨rfl, trivial⟩)⟩
set_option maxRecDepth 100000 in
set_option maxHeartbeats 8000000 in
theorem CL_98_74 {X : pm_X} {d : Nat} {wr : pm_W} {Q : pm_R → Prop} {f0 : Nat → Int32} {A0 : Nat → List Int32} {R : Nat → Value} {x1 x2 x3 : Int32} {v5 : Nat} {rw46 : Nat} (hX : XO X) (hv5 : VV v5) (hrw46 : RR rw46) (hR0 : R 0 = .ref v5) (gx3 : (0 ≤ x3.toInt ∧ x3.toInt ≤ 30)) (k_102_0 : ∀ (f' : Nat → Int32) (A' : Nat → List Int32) (y6 : Int32), CI f' A' R → (∀ k : Nat, k ≠ 529 → k ≠ 530 → f' k = f0 k) → (∀ k : Nat, k ≠ 39 → k ≠ 40 → k ≠ 41 → A' k = A0 k) → (0 ≤ y6.toInt ∧ y6.toInt ≤ 30) → pmE pg X pg_tyl pg_cl (d + 5) 98 102 [.ref 0, .int x1, .int x2, .int x3, .ref v5, .ref rw46, .int y6] [] (cd f' A' R wr) Q) (kr_0 : ∀ (f' : Nat → Int32) (A' : Nat → List Int32), CI f' A' R → (∀ k : Nat, k ≠ 529 → k ≠ 530 → f' k = f0 k) → (∀ k : Nat, k ≠ 39 → k ≠ 40 → k ≠ 41 → A' k = A0 k) → Q (some (.int 0), cd f' A' R wr, 0, 0)) : ∀ (m : Nat) (f : Nat → Int32) (A : Nat → List Int32) (x6 : Int32), CI f A R → (∀ k : Nat, k ≠ 529 → k ≠ 530 → f k = f0 k) → (∀ k : Nat, k ≠ 39 → k ≠ 40 → k ≠ 41 → A k = A0 k) → (0 ≤ x6.toInt ∧ x6.toInt ≤ 30) → 30 - x6.toInt < (m : Int) → pmE pg X pg_tyl pg_cl (d + 5) 98 74 [.ref 0, .int x1, .int x2, .int x3, .ref v5, .ref rw46, .int x6] [] (cd f A R wr) Q := by
  have bv5 := VV_b hv5
  have brw46 := RR_b hrw46
  intro m
  induction m with
  | zero =>
    intro f A x6 hI hG hF gx6 hm
    exfalso
    have l0 := zi_lo x6
    have u0 := zi_hi x6
    omega
  | succ m ih =>
    intro f A x6 hI hG hF gx6 hm
    refine pe_iload (j := 6) (by decide +kernel) rfl ?_
    refine pe_iload_n (j := 3) (by decide +kernel) rfl ?_
    refine pz_icmp_ge (off := 25) (t := 102) (by decide +kernel) (by decide) rfl rfl rfl (fun h1 => ?_) (fun h1 => ?_)
    · skip
      exact k_102_0 f A x6 hI (fun k n529 n530 => (hG k n529 n530)) (fun k n39 n40 n41 => (hF k n39 n40 n41)) (by omega)
    · skip
      refine pe_aload_n (j := 0) (by decide +kernel) rfl ?_
      refine pe_get (j := 34) (ci := 11) (n := 4) (by decide +kernel) (by decide +kernel) cd_o0 rfl ?_
      refine pe_aload (j := 5) (by decide +kernel) rfl ?_
      refine pe_iload (j := 6) (by decide +kernel) rfl ?_
      refine pz_callV (j := 174) (mj := 75) (by decide +kernel) (cll_V (args := [.int x6, .ref rw46]) (n := 2) (by decide +kernel) rfl rfl cd_o33 (by decide +kernel) (Nat.le_of_ble_eq_true rfl) (Nat.le_of_ble_eq_true rfl)) (CM_75 hX hI hv5 hrw46 (hR0) (by omega)) (fun q2a q2b q2c q2d hqq2 => ?_)
      obtain ⟨f3, A4, rq2, eq2, hIq2, hGq2, hFq2, kq2⟩ := hqq2
      cases eq2
      refine ⟨rfl, rfl, ?_⟩
      rcases kq2 with kq2 | kq2
      · skip
        obtain ⟨erq2, kq2⟩ := kq2
        subst erq2
        show pmE pg X pg_tyl pg_cl (d + 5) 98 91 [.ref 0, .int x1, .int x2, .int x3, .ref v5, .ref rw46, .int x6] [.int 0] (cd f3 A4 R wr) _
        refine pz_if_ne (off := 5) (t := 96) (by decide +kernel) (by decide) rfl kz_0 (fun h5 => by omega) (fun h5 => ?_)
        refine pe_iconstv (n := 0) (v := 0) (by decide +kernel) (by decide +kernel) ?_
        exact pe_iret (by decide +kernel) rfl rfl (kr_0 f3 A4 hIq2 (fun k n529 n530 => ((hGq2 k n529 n530)).trans ((hG k n529 n530))) (fun k n39 n40 n41 => ((hFq2 k n39 n40 n41)).trans ((hF k n39 n40 n41))))
      · skip
        obtain ⟨erq2, kq2⟩ := kq2
        subst erq2
        show pmE pg X pg_tyl pg_cl (d + 5) 98 91 [.ref 0, .int x1, .int x2, .int x3, .ref v5, .ref rw46, .int x6] [.int 1] (cd f3 A4 R wr) _
        refine pz_if_ne (off := 5) (t := 96) (by decide +kernel) (by decide) rfl kz_1 (fun h6 => ?_) (fun h6 => by omega)
        refine pz_iinc (j := 6) (n := 1) (by decide +kernel) rfl rfl (by decide +kernel) (by omega) (by omega) (fun z7 hz7 => ?_)
        show pmE pg X pg_tyl pg_cl (d + 5) 98 99 [.ref 0, .int x1, .int x2, .int x3, .ref v5, .ref rw46, .int z7] [] (cd f3 A4 R wr) _
        refine pe_goto (off := (-25)) (t := 74) (by decide +kernel) (by decide) rfl ?_
        exact ih f3 A4 z7 hIq2 (fun k n529 n530 => ((hGq2 k n529 n530)).trans ((hG k n529 n530))) (fun k n39 n40 n41 => ((hFq2 k n39 n40 n41)).trans ((hF k n39 n40 n41))) (by omega) (by omega)
set_option maxRecDepth 100000 in
set_option maxHeartbeats 8000000 in
theorem CM_98 {X : pm_X} {d : Nat} {wr : pm_W} {f : Nat → Int32} {A : Nat → List Int32} {R : Nat → Value} {x1 x2 x3 : Int32} (hX : XO X) (hI : CI f A R) : pmE pg X pg_tyl pg_cl (d + 5) 98 0 (pm_ent (pm_max pg 98) [.ref 0, .int x1, .int x2, .int x3]) [] (cd f A R wr) (fun q => ∃ (f' : Nat → Int32) (A' : Nat → List Int32) (R' : Nat → Value) (r : Int32), q = (some (.int r), cd f' A' R' wr, 0, 0) ∧ CI f' A' R' ∧ (∀ k : Nat, k ≠ 529 → k ≠ 530 → f' k = f k) ∧ (∀ k : Nat, k ≠ 39 → k ≠ 40 → k ≠ 41 → A' k = A k) ∧ (∀ k : Nat, k ≠ 0 → R' k = R k) ∧ ((r = 0 ∧ True) ∨ (r = 1 ∧ (∃ v : Nat, VV v ∧ R' 0 = .ref v) ∧ (0 ≤ x3.toInt ∧ x3.toInt ≤ 30)))) := by
  show pmE pg X pg_tyl pg_cl (d + 5) 98 0 [.ref 0, .int x1, .int x2, .int x3, pm_dead, pm_dead, pm_dead] [] (cd f A R wr) _
  refine pe_aload_n (j := 0) (by decide +kernel) rfl ?_
  refine pe_get (j := 12) (ci := 11) (n := 0) (by decide +kernel) (by decide +kernel) cd_o0 rfl ?_
  refine pe_iload_n (j := 1) (by decide +kernel) rfl ?_
  refine pz_callV (j := 111) (mj := 60) (by decide +kernel) (cll_V (args := [.int x1]) (n := 1) (by decide +kernel) rfl rfl cd_o1 (by decide +kernel) (Nat.le_of_ble_eq_true rfl) (Nat.le_of_ble_eq_true rfl)) (CM_atV hI) (fun q1a q1b q1c q1d hqq1 => ?_)
  obtain ⟨rq1, eq1, kq1⟩ := hqq1
  cases eq1
  rcases kq1 with rfl | ⟨v5, hv5, rfl⟩
  · skip
    refine ⟨rfl, rfl, ?_⟩
    show pmE pg X pg_tyl pg_cl (d + 5) 98 8 [.ref 0, .int x1, .int x2, .int x3, pm_dead, pm_dead, pm_dead] [.null] (cd f A R wr) _
    refine pe_astoreN (j := 4) (ls' := [.ref 0, .int x1, .int x2, .int x3, .null, pm_dead, pm_dead]) (by decide +kernel) (Nat.le_of_ble_eq_true rfl) rfl ?_
    refine pe_aloadN (j := 4) (by decide +kernel) rfl ?_
    refine pe_ifnonnullN (off := 5) (by decide +kernel) ?_
    refine pe_iconstv (n := 0) (v := 0) (by decide +kernel) (by decide +kernel) ?_
    exact pe_iret (by decide +kernel) rfl rfl ⟨f, A, R, 0, rfl, hI, (fun k n529 n530 => rfl), (fun k n39 n40 n41 => rfl), (fun k n0 => rfl), Or.inl ⟨rfl, trivial⟩⟩
  · skip
    have bv5 := VV_b hv5
    refine ⟨rfl, rfl, ?_⟩
    show pmE pg X pg_tyl pg_cl (d + 5) 98 8 [.ref 0, .int x1, .int x2, .int x3, pm_dead, pm_dead, pm_dead] [.ref v5] (cd f A R wr) _
    refine pe_astore (j := 4) (ls' := [.ref 0, .int x1, .int x2, .int x3, .ref v5, pm_dead, pm_dead]) (by decide +kernel) (Nat.le_of_ble_eq_true rfl) rfl ?_
    refine pe_aload (j := 4) (by decide +kernel) rfl ?_
    refine pe_ifnonnull (off := 5) (t := 17) (by decide +kernel) (by decide) rfl ?_
    refine pe_aload_n (j := 0) (by decide +kernel) rfl ?_
    refine pe_get (j := 34) (ci := 11) (n := 4) (by decide +kernel) (by decide +kernel) cd_o0 rfl ?_
    refine pe_aload (j := 4) (by decide +kernel) rfl ?_
    refine pi_V (j := 170) (mj := 74) (by decide +kernel) (cll_V (args := [.ref v5]) (n := 1) (by decide +kernel) rfl rfl cd_o33 (by decide +kernel) (Nat.le_of_ble_eq_true rfl) (Nat.le_of_ble_eq_true rfl)) ?_
    show pmE pg X pg_tyl pg_cl (d + 4) 74 0 [.ref 33, .ref v5] [] (cd f A R wr) _
    refine pe_aload_n (j := 0) (by decide +kernel) rfl ?_
    refine pe_aload_n (j := 1) (by decide +kernel) rfl ?_
    refine cz_putR0 (jj := 12) (ty := (.object "RingVillage$Village")) (by decide +kernel) (by decide +kernel) hI pm_fit_obj ⟨_, rfl⟩ (fun R2 eR2 hIR2 => ?_)
    refine pe_aload_n (j := 0) (by decide +kernel) rfl ?_
    refine pe_iconstv (n := 0) (v := 0) (by decide +kernel) (by decide +kernel) ?_
    refine cz_put529 (jj := 28) (by decide +kernel) (by decide +kernel) hIR2 (fun f3 ef3 hIf3 => ?_)
    refine pe_aload_n (j := 0) (by decide +kernel) rfl ?_
    refine pe_iconstv (n := 0) (v := 0) (by decide +kernel) (by decide +kernel) ?_
    refine cz_put530 (jj := 32) (by decide +kernel) (by decide +kernel) hIf3 (by decide +kernel) (by decide +kernel) (fun f4 ef4 hIf4 => ?_)
    refine pe_aload_n (j := 0) (by decide +kernel) rfl ?_
    refine pe_get (j := 18) (ci := 7) (n := 3) (by decide +kernel) (by decide +kernel) cd_o33 rfl ?_
    refine pe_iconstv (n := 0) (v := 0) (by decide +kernel) (by decide +kernel) ?_
    refine cz_fill (j := 35) (k := 39) (n := 81) (by decide +kernel) (by decide +kernel) rfl cd_a39 (fun _ => cd_s39) hIf4 (cl_39 hIf4) (by decide +kernel) (ct_no (by decide +kernel)) (fun A5 eA5 hIA5 => ?_)
    refine pe_vret (by decide +kernel) rfl ⟨rfl, rfl, ?_⟩
    show pmE pg X pg_tyl pg_cl (d + 5) 98 26 [.ref 0, .int x1, .int x2, .int x3, .ref v5, pm_dead, pm_dead] [] (cd f4 A5 R2 wr) _
    refine pe_iload_n (j := 2) (by decide +kernel) rfl ?_
    refine pe_iconstv (n := (-1)) (v := (-1)) (by decide +kernel) (by decide +kernel) ?_
    have lw7 := zi_lo x2
    have uw7 := zi_hi x2
    refine pz_icmp_ne (off := 13) (t := 41) (by decide +kernel) (by decide) rfl rfl kz_m1 (fun h6 => ?_) (fun h6 => ?_)
    · skip
      refine pe_aload_n (j := 0) (by decide +kernel) rfl ?_
      refine pe_get (j := 12) (ci := 11) (n := 0) (by decide +kernel) (by decide +kernel) cd_o0 rfl ?_
      refine pe_iload_n (j := 2) (by decide +kernel) rfl ?_
      refine pz_callV (j := 148) (mj := 67) (by decide +kernel) (cll_V (args := [.int x2]) (n := 1) (by decide +kernel) rfl rfl cd_o1 (by decide +kernel) (Nat.le_of_ble_eq_true rfl) (Nat.le_of_ble_eq_true rfl)) (CM_atR hIA5) (fun q8a q8b q8c q8d hqq8 => ?_)
      obtain ⟨rq8, eq8, kq8⟩ := hqq8
      cases eq8
      rcases kq8 with rfl | ⟨rw46, hrw46, rfl⟩
      · skip
        refine ⟨rfl, rfl, ?_⟩
        show pmE pg X pg_tyl pg_cl (d + 5) 98 49 [.ref 0, .int x1, .int x2, .int x3, .ref v5, pm_dead, pm_dead] [.null] (cd f4 A5 R2 wr) _
        refine pe_astoreN (j := 5) (ls' := [.ref 0, .int x1, .int x2, .int x3, .ref v5, .null, pm_dead]) (by decide +kernel) (Nat.le_of_ble_eq_true rfl) rfl ?_
        refine pe_aloadN (j := 5) (by decide +kernel) rfl ?_
        refine pe_ifnullN (off := 16) (t := 69) (by decide +kernel) (by decide) rfl ?_
        refine pe_iconstv (n := 0) (v := 0) (by decide +kernel) (by decide +kernel) ?_
        exact pe_iret (by decide +kernel) rfl rfl ⟨f4, A5, R2, 0, rfl, hIA5, (fun k n529 n530 => (upf_fr ef4 n530).trans (upf_fr ef3 n529)), (fun k n39 n40 n41 => upa_fr eA5 n39), (fun k n0 => upr_fr eR2 n0), Or.inl ⟨rfl, trivial⟩⟩
      · skip
        have brw46 := RR_b hrw46
        refine ⟨rfl, rfl, ?_⟩
        show pmE pg X pg_tyl pg_cl (d + 5) 98 49 [.ref 0, .int x1, .int x2, .int x3, .ref v5, pm_dead, pm_dead] [.ref rw46] (cd f4 A5 R2 wr) _
        refine pe_astore (j := 5) (ls' := [.ref 0, .int x1, .int x2, .int x3, .ref v5, .ref rw46, pm_dead]) (by decide +kernel) (Nat.le_of_ble_eq_true rfl) rfl ?_
        refine pe_aload (j := 5) (by decide +kernel) rfl ?_
        refine pe_ifnull (off := 16) (by decide +kernel) ?_
        refine pe_iload_n (j := 3) (by decide +kernel) rfl ?_
        have lw10 := zi_lo x3
        have uw10 := zi_hi x3
        refine pz_if_lt (off := 12) (t := 69) (by decide +kernel) (by decide) rfl rfl (fun h9 => ?_) (fun h9 => ?_)
        · skip
          refine pe_iconstv (n := 0) (v := 0) (by decide +kernel) (by decide +kernel) ?_
          exact pe_iret (by decide +kernel) rfl rfl ⟨f4, A5, R2, 0, rfl, hIA5, (fun k n529 n530 => (upf_fr ef4 n530).trans (upf_fr ef3 n529)), (fun k n39 n40 n41 => upa_fr eA5 n39), (fun k n0 => upr_fr eR2 n0), Or.inl ⟨rfl, trivial⟩⟩
        · skip
          refine pe_iload_n (j := 3) (by decide +kernel) rfl ?_
          refine pe_aload (j := 5) (by decide +kernel) rfl ?_
          refine pe_get (j := 152) (ci := 5) (n := 0) (by decide +kernel) (by decide +kernel) (cr_o hrw46) rfl ?_
          have hr_f_16rw46 := cr_acts hrw46 hI
          refine pe_top (v := (f (16 * rw46))) ((upf_fr ef4 (by omega)).trans (upf_fr ef3 (by omega))) ?_
          refine pz_icmp_le (off := 5) (t := 71) (by decide +kernel) (by decide) rfl rfl rfl (fun h11 => ?_) (fun h11 => ?_)
          · skip
            refine pe_iconstv (n := 0) (v := 0) (by decide +kernel) (by decide +kernel) ?_
            refine pe_istore (j := 6) (ls' := [.ref 0, .int x1, .int x2, .int x3, .ref v5, .ref rw46, .int 0]) (by decide +kernel) (Nat.le_of_ble_eq_true rfl) rfl ?_
            refine CL_98_74 hX hv5 hrw46 (upr_at eR2) (by omega) (fun f12 A13 y14 hIy15 hGf12 hFA13 gy14 => ?_) (fun f16 A17 hIy18 hGf16 hFA17 => ⟨f16, A17, R2, 0, rfl, hIy18, (fun k n529 n530 => ((hGf16 k n529 n530)).trans ((upf_fr ef4 n530).trans (upf_fr ef3 n529))), (fun k n39 n40 n41 => ((hFA17 k n39 n40 n41)).trans (upa_fr eA5 n39)), (fun k n0 => upr_fr eR2 n0), Or.inl ⟨rfl, trivial⟩⟩) 31 f4 A5 0 hIA5 (fun k _ _ => rfl) (fun k _ _ _ => rfl) (by decide +kernel) (by decide +kernel)
            refine pe_iconstv (n := 1) (v := 1) (by decide +kernel) (by decide +kernel) ?_
            exact pe_iret (by decide +kernel) rfl rfl ⟨f12, A13, R2, 1, rfl, hIy15, (fun k n529 n530 => ((hGf12 k n529 n530)).trans ((upf_fr ef4 n530).trans (upf_fr ef3 n529))), (fun k n39 n40 n41 => ((hFA13 k n39 n40 n41)).trans (upa_fr eA5 n39)), (fun k n0 => upr_fr eR2 n0), Or.inr (⟨rfl, ⟨v5, hv5, upr_at eR2⟩, (by omega)⟩)⟩
          · skip
            refine pe_iconstv (n := 0) (v := 0) (by decide +kernel) (by decide +kernel) ?_
            exact pe_iret (by decide +kernel) rfl rfl ⟨f4, A5, R2, 0, rfl, hIA5, (fun k n529 n530 => (upf_fr ef4 n530).trans (upf_fr ef3 n529)), (fun k n39 n40 n41 => upa_fr eA5 n39), (fun k n0 => upr_fr eR2 n0), Or.inl ⟨rfl, trivial⟩⟩
    · skip
      refine pe_iload_n (j := 3) (by decide +kernel) rfl ?_
      have lw20 := zi_lo x3
      have uw20 := zi_hi x3
      refine pz_if_ne (off := 7) (t := 39) (by decide +kernel) (by decide) rfl rfl (fun h19 => ?_) (fun h19 => ?_)
      · skip
        refine pe_iconstv (n := 0) (v := 0) (by decide +kernel) (by decide +kernel) ?_
        exact pe_iret (by decide +kernel) rfl rfl ⟨f4, A5, R2, 0, rfl, hIA5, (fun k n529 n530 => (upf_fr ef4 n530).trans (upf_fr ef3 n529)), (fun k n39 n40 n41 => upa_fr eA5 n39), (fun k n0 => upr_fr eR2 n0), Or.inl ⟨rfl, trivial⟩⟩
      · skip
        refine pe_iconstv (n := 1) (v := 1) (by decide +kernel) (by decide +kernel) ?_
        refine pe_goto (off := 4) (t := 40) (by decide +kernel) (by decide) rfl ?_
        exact pe_iret (by decide +kernel) rfl rfl ⟨f4, A5, R2, 1, rfl, hIA5, (fun k n529 n530 => (upf_fr ef4 n530).trans (upf_fr ef3 n529)), (fun k n39 n40 n41 => upa_fr eA5 n39), (fun k n0 => upr_fr eR2 n0), Or.inr (⟨rfl, ⟨v5, hv5, upr_at eR2⟩, (by omega)⟩)⟩
