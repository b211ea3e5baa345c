section
set_option maxRecDepth 100000 in
set_option maxHeartbeats 8000000 in
theorem CM_135 {X : pm_X} {d : Nat} {wr : pm_W} {f : Nat → Int32} {A : Nat → List Int32} {R : Nat → Value} {x2 : Int32} {v : Nat} (hX : XO X) (hI : CI f A R) (hv : VV v) (hR0 : R 0 = .ref v) (hR2 : R 2 = .ref 33) : pmE pg X pg_tyl pg_cl (d + 3) 135 0 (pm_ent (pm_max pg 135) [.ref 55, .int 6, .int x2]) [] (cd f A R wr) (fun q => ∃ (f' : Nat → Int32) (A' : Nat → List Int32) (R' : Nat → Value), q = (none, cd f' A' R' wr, 0, 0) ∧ CI f' A' R' ∧ (∀ k : Nat, k ≠ 886 → k ≠ 887 → f' k = f k) ∧ (∀ k : Nat, k ≠ 67 → A' k = A k) ∧ (∀ k : Nat, k ≠ 5 → R' k = R k) ∧ ((True))) := by
  have bv := VV_b hv
  show pmE pg X pg_tyl pg_cl (d + 3) 135 0 [.ref 55, .int 6, .int x2, pm_dead, pm_dead] [] (cd f A R wr) _
  refine pe_aload_n (j := 0) (by decide +kernel) rfl ?_
  refine pe_get (j := 22) (ci := 6) (n := 4) (by decide +kernel) (by decide +kernel) cd_o55 rfl ?_
  refine pe_iload_n (j := 1) (by decide +kernel) rfl ?_
  refine pe_iconstv (n := 1) (v := 1) (by decide +kernel) (by decide +kernel) ?_
  refine pe_isub (by decide +kernel) ?_
  refine pe_top (v := 5) (by decide +kernel) ?_
  refine pz_iald (by decide +kernel) cd_a66 (cl_66 hI) kz_5 (by omega) (by omega) (fun v2 ev2 => ?_)
  have rv2 : 0 ≤ v2.toInt ∧ v2.toInt ≤ 8 := ct_66 hI ev2
  refine pe_istore_n (j := 3) (ls' := [.ref 55, .int 6, .int x2, .int v2, pm_dead]) (by decide +kernel) (Nat.le_of_ble_eq_true rfl) rfl ?_
  refine pe_aload_n (j := 0) (by decide +kernel) rfl ?_
  refine pe_get (j := 12) (ci := 6) (n := 0) (by decide +kernel) (by decide +kernel) cd_o55 rfl ?_
  refine pe_topV (v := .ref 33) (hR2) ?_
  refine pe_iload_n (j := 3) (by decide +kernel) rfl ?_
  refine pe_aload_n (j := 0) (by decide +kernel) rfl ?_
  refine pe_get (j := 22) (ci := 6) (n := 4) (by decide +kernel) (by decide +kernel) cd_o55 rfl ?_
  refine pe_iconstv (n := 0) (v := 0) (by decide +kernel) (by decide +kernel) ?_
  refine pz_iald (by decide +kernel) cd_a66 (cl_66 hI) kz_0 (by omega) (by omega) (fun v3 ev3 => ?_)
  have rv3 : 0 ≤ v3.toInt ∧ v3.toInt ≤ 8 := ct_66 hI ev3
  refine pz_callV (j := 59) (mj := 77) (by decide +kernel) (cll_V (args := [.int v3, .int v2]) (n := 2) (by decide +kernel) rfl rfl cd_o33 (by decide +kernel) (Nat.le_of_ble_eq_true rfl) (Nat.le_of_ble_eq_true rfl)) (CM_77 hX hI hv (hR0) (by omega) (by omega)) (fun q4a q4b q4c q4d hqq4 => ?_)
  obtain ⟨rq4, eq4, kq4⟩ := hqq4
  cases eq4
  refine ⟨rfl, rfl, ?_⟩
  show pmE pg X pg_tyl pg_cl (d + 3) 135 23 [.ref 55, .int 6, .int x2, .int v2, pm_dead] [.int rq4] (cd f A R wr) _
  refine pe_aload_n (j := 0) (by decide +kernel) rfl ?_
  refine pe_get (j := 53) (ci := 6) (n := 2) (by decide +kernel) (by decide +kernel) cd_o55 rfl ?_
  have lw6 := zi_lo rq4
  have uw6 := zi_hi rq4
  have lw7 := zi_lo (f 882)
  have uw7 := zi_hi (f 882)
  refine pz_icmp_lt (off := 8) (t := 35) (by decide +kernel) (by decide) rfl rfl rfl (fun h5 => ?_) (fun h5 => ?_)
  · skip
    refine pe_iload_n (j := 1) (by decide +kernel) rfl ?_
    refine pe_bipushv (n := 6) (v := 6) (by decide +kernel) (by decide +kernel) ?_
    refine pz_icmp_lt (off := 4) (t := 42) (by decide +kernel) (by decide) rfl kz_6 kz_6 (fun h8 => by omega) (fun h8 => ?_)
    exact pe_vret (by decide +kernel) rfl ⟨f, A, R, rfl, hI, (fun k n886 n887 => rfl), (fun k n67 => rfl), (fun k n5 => rfl), trivial⟩
  · skip
    refine pe_aload_n (j := 0) (by decide +kernel) rfl ?_
    refine pe_iload_n (j := 1) (by decide +kernel) rfl ?_
    refine pz_callV (j := 66) (mj := 136) (by decide +kernel) (cll_V (args := [.int 6]) (n := 1) (by decide +kernel) rfl rfl cd_o55 (by decide +kernel) (Nat.le_of_ble_eq_true rfl) (Nat.le_of_ble_eq_true rfl)) (CM_136 hX hI hv (hR0) (hR2) (by decide +kernel)) (fun q9a q9b q9c q9d hqq9 => ?_)
    obtain ⟨f10, A11, R12, eq9, hIq9, hGq9, hFq9, hHq9, kq9⟩ := hqq9
    cases eq9
    refine ⟨rfl, rfl, ?_⟩
    show pmE pg X pg_tyl pg_cl (d + 3) 135 35 [.ref 55, .int 6, .int x2, .int v2, pm_dead] [] (cd f10 A11 R12 wr) _
    refine pe_iload_n (j := 1) (by decide +kernel) rfl ?_
    refine pe_bipushv (n := 6) (v := 6) (by decide +kernel) (by decide +kernel) ?_
    refine pz_icmp_lt (off := 4) (t := 42) (by decide +kernel) (by decide) rfl kz_6 kz_6 (fun h13 => by omega) (fun h13 => ?_)
    exact pe_vret (by decide +kernel) rfl ⟨f10, A11, R12, rfl, hIq9, (fun k n886 n887 => (hGq9 k n886 n887)), (fun k n67 => (hFq9 k n67)), (fun k n5 => (hHq9 k n5)), trivial⟩
set_option maxRecDepth 100000 in
set_option maxHeartbeats 8000000 in
theorem CL_135_1_45 {X : pm_X} {d : Nat} {wr : pm_W} {Q : pm_R → Prop} {f0 : Nat → Int32} {A0 : Nat → List Int32} {R0 : Nat → Value} {x2 x3 : Int32} {v : Nat} (hX : XO X) (hv : VV v) (hR0 : R0 0 = .ref v) (hR2 : R0 2 = .ref 33) (gx3 : (0 ≤ x3.toInt ∧ x3.toInt ≤ 8)) (k_113_0 : ∀ (f' : Nat → Int32) (A' : Nat → List Int32) (R' : Nat → Value) (y4 : Int32), CI f' A' R' → (∀ k : Nat, k ≠ 886 → k ≠ 887 → f' k = f0 k) → (∀ k : Nat, k ≠ 66 → k ≠ 67 → A' k = A0 k) → (∀ k : Nat, k ≠ 5 → R' k = R0 k) → (0 ≤ y4.toInt ∧ y4.toInt ≤ 9) → pmE pg X pg_tyl pg_cl (d + 4) 135 113 [.ref 55, .int 5, .int x2, .int x3, .int y4] [] (cd f' A' R' wr) Q) : ∀ (m : Nat) (f : Nat → Int32) (A : Nat → List Int32) (R : Nat → Value) (x4 : Int32), CI f A R → (∀ k : Nat, k ≠ 886 → k ≠ 887 → f k = f0 k) → (∀ k : Nat, k ≠ 66 → k ≠ 67 → A k = A0 k) → (∀ k : Nat, k ≠ 5 → R k = R0 k) → (0 ≤ x4.toInt ∧ x4.toInt ≤ 9) → 9 - x4.toInt < (m : Int) → pmE pg X pg_tyl pg_cl (d + 4) 135 45 [.ref 55, .int 5, .int x2, .int x3, .int x4] [] (cd f A R wr) Q := by
  have bv := VV_b hv
  intro m
  induction m with
  | zero =>
    intro f A R x4 hI hG hF hH gx4 hm
    exfalso
    have l0 := zi_lo x4
    have u0 := zi_hi x4
    omega
  | succ m ih =>
    intro f A R x4 hI hG hF hH gx4 hm
    refine pe_iload (j := 4) (by decide +kernel) rfl ?_
    refine pe_aload_n (j := 0) (by decide +kernel) rfl ?_
    refine pe_get (j := 12) (ci := 6) (n := 0) (by decide +kernel) (by decide +kernel) cd_o55 rfl ?_
    refine pe_topV (v := .ref 33) (((hH 2 (by decide))).trans (hR2)) ?_
    refine pe_get (j := 28) (ci := 7) (n := 0) (by decide +kernel) (by decide +kernel) cd_o33 rfl ?_
    refine pe_topV (v := .ref v) (((hH 0 (by decide))).trans (hR0)) ?_
    refine pe_get (j := 70) (ci := 9) (n := 0) (by decide +kernel) (by decide +kernel) (cv_o hv) rfl ?_
    have hr_f_16v := cv_people hv hI
    refine pz_icmp_ge (off := 56) (t := 113) (by decide +kernel) (by decide) rfl rfl rfl (fun h1 => ?_) (fun h1 => ?_)
    · skip
      exact k_113_0 f A R x4 hI (fun k n886 n887 => (hG k n886 n887)) (fun k n66 n67 => (hF k n66 n67)) (fun k n5 => (hH k n5)) (by omega)
    · skip
      refine pe_iload_n (j := 2) (by decide +kernel) rfl ?_
      refine pe_iload (j := 4) (by decide +kernel) rfl ?_
      refine pi_S (j := 73) (mj := 89) (by decide +kernel) (by decide +kernel) rfl ?_
      show pmE pg X pg_tyl pg_cl (d + 3) 89 0 [.int x2, .int x4] [] (cd f A R wr) _
      refine pe_iload_n (j := 0) (by decide +kernel) rfl ?_
      refine pe_iload_n (j := 1) (by decide +kernel) rfl ?_
      refine pw_shr (by decide +kernel) (fun z2 => ?_)
      refine pe_iconstv (n := 1) (v := 1) (by decide +kernel) (by decide +kernel) ?_
      refine pz_and1 (by decide +kernel) (fun z3 hz3 => ?_)
      refine pz_if_eq (off := 7) (t := 12) (by decide +kernel) (by decide) rfl rfl (fun h4 => ?_) (fun h4 => ?_)
      · skip
        refine pe_iconstv (n := 0) (v := 0) (by decide +kernel) (by decide +kernel) ?_
        refine pe_iret (by decide +kernel) rfl rfl ⟨rfl, rfl, ?_⟩
        show pmE pg X pg_tyl pg_cl (d + 4) 135 66 [.ref 55, .int 5, .int x2, .int x3, .int x4] [.int 0] (cd f A R wr) _
        refine pz_if_ne (off := 41) (t := 107) (by decide +kernel) (by decide) rfl kz_0 (fun h5 => by omega) (fun h5 => ?_)
        refine pe_aload_n (j := 0) (by decide +kernel) rfl ?_
        refine pe_get (j := 12) (ci := 6) (n := 0) (by decide +kernel) (by decide +kernel) cd_o55 rfl ?_
        refine pe_topV (v := .ref 33) (((hH 2 (by decide))).trans (hR2)) ?_
        refine pe_iload_n (j := 3) (by decide +kernel) rfl ?_
        refine pe_iload (j := 4) (by decide +kernel) rfl ?_
        refine pz_callV (j := 59) (mj := 77) (by decide +kernel) (cll_V (args := [.int x4, .int x3]) (n := 2) (by decide +kernel) rfl rfl cd_o33 (by decide +kernel) (Nat.le_of_ble_eq_true rfl) (Nat.le_of_ble_eq_true rfl)) (CM_77 hX hI hv (((hH 0 (by decide))).trans (hR0)) (by omega) (by omega)) (fun q6a q6b q6c q6d hqq6 => ?_)
        obtain ⟨rq6, eq6, kq6⟩ := hqq6
        cases eq6
        refine ⟨rfl, rfl, ?_⟩
        show pmE pg X pg_tyl pg_cl (d + 4) 135 79 [.ref 55, .int 5, .int x2, .int x3, .int x4] [.int rq6] (cd f A R wr) _
        refine pe_aload_n (j := 0) (by decide +kernel) rfl ?_
        refine pe_get (j := 53) (ci := 6) (n := 2) (by decide +kernel) (by decide +kernel) cd_o55 rfl ?_
        have lw8 := zi_lo rq6
        have uw8 := zi_hi rq6
        have lw9 := zi_lo (f 882)
        have uw9 := zi_hi (f 882)
        refine pz_icmp_lt (off := 24) (t := 107) (by decide +kernel) (by decide) rfl rfl rfl (fun h7 => ?_) (fun h7 => ?_)
        · skip
          refine pz_iinc (j := 4) (n := 1) (by decide +kernel) rfl rfl (by decide +kernel) (by omega) (by omega) (fun z10 hz10 => ?_)
          show pmE pg X pg_tyl pg_cl (d + 4) 135 110 [.ref 55, .int 5, .int x2, .int x3, .int z10] [] (cd f A R wr) _
          refine pe_goto (off := (-65)) (t := 45) (by decide +kernel) (by decide) rfl ?_
          exact ih f A R z10 hI (fun k n886 n887 => (hG k n886 n887)) (fun k n66 n67 => (hF k n66 n67)) (fun k n5 => (hH k n5)) (by omega) (by omega)
        · skip
          refine pe_aload_n (j := 0) (by decide +kernel) rfl ?_
          refine pe_get (j := 22) (ci := 6) (n := 4) (by decide +kernel) (by decide +kernel) cd_o55 rfl ?_
          refine pe_iload_n (j := 1) (by decide +kernel) rfl ?_
          refine pe_iload (j := 4) (by decide +kernel) rfl ?_
          refine cz_st66 (by decide +kernel) hI kz_5 (by omega) (by omega) (by simp only [CT]; omega) (fun A11 eA11 hIA11 => ?_)
          refine pe_aload_n (j := 0) (by decide +kernel) rfl ?_
          refine pe_iload_n (j := 1) (by decide +kernel) rfl ?_
          refine pe_iconstv (n := 1) (v := 1) (by decide +kernel) (by decide +kernel) ?_
          refine pe_iadd (by decide +kernel) ?_
          refine pe_top (v := 6) (by decide +kernel) ?_
          refine pe_iload_n (j := 2) (by decide +kernel) rfl ?_
          refine pe_iconstv (n := 1) (v := 1) (by decide +kernel) (by decide +kernel) ?_
          refine pe_iload (j := 4) (by decide +kernel) rfl ?_
          refine pz_shl1 (by decide +kernel) rfl (by omega) (by omega) (fun z13 hz13 => ?_)
          refine pw_or (by decide +kernel) (fun z14 => ?_)
          refine pz_callS (j := 62) (mj := 135) (by decide +kernel) (by decide +kernel) rfl (CM_135 hX hIA11 hv (((hH 0 (by decide))).trans (hR0)) (((hH 2 (by decide))).trans (hR2))) (fun q15a q15b q15c q15d hqq15 => ?_)
          obtain ⟨f16, A17, R18, eq15, hIq15, hGq15, hFq15, hHq15, kq15⟩ := hqq15
          cases eq15
          refine ⟨rfl, rfl, ?_⟩
          show pmE pg X pg_tyl pg_cl (d + 4) 135 107 [.ref 55, .int 5, .int x2, .int x3, .int x4] [] (cd f16 A17 R18 wr) _
          refine pz_iinc (j := 4) (n := 1) (by decide +kernel) rfl rfl (by decide +kernel) (by omega) (by omega) (fun z19 hz19 => ?_)
          show pmE pg X pg_tyl pg_cl (d + 4) 135 110 [.ref 55, .int 5, .int x2, .int x3, .int z19] [] (cd f16 A17 R18 wr) _
          refine pe_goto (off := (-65)) (t := 45) (by decide +kernel) (by decide) rfl ?_
          exact ih f16 A17 R18 z19 hIq15 (fun k n886 n887 => ((hGq15 k n886 n887)).trans ((hG k n886 n887))) (fun k n66 n67 => ((hFq15 k n67)).trans ((upa_fr eA11 n66).trans ((hF k n66 n67)))) (fun k n5 => ((hHq15 k n5)).trans ((hH k n5))) (by omega) (by omega)
      · skip
        refine pe_iconstv (n := 1) (v := 1) (by decide +kernel) (by decide +kernel) ?_
        refine pe_goto (off := 4) (t := 13) (by decide +kernel) (by decide) rfl ?_
        refine pe_iret (by decide +kernel) rfl rfl ⟨rfl, rfl, ?_⟩
        show pmE pg X pg_tyl pg_cl (d + 4) 135 66 [.ref 55, .int 5, .int x2, .int x3, .int x4] [.int 1] (cd f A R wr) _
        refine pz_if_ne (off := 41) (t := 107) (by decide +kernel) (by decide) rfl kz_1 (fun h20 => ?_) (fun h20 => by omega)
        refine pz_iinc (j := 4) (n := 1) (by decide +kernel) rfl rfl (by decide +kernel) (by omega) (by omega) (fun z21 hz21 => ?_)
        show pmE pg X pg_tyl pg_cl (d + 4) 135 110 [.ref 55, .int 5, .int x2, .int x3, .int z21] [] (cd f A R wr) _
        refine pe_goto (off := (-65)) (t := 45) (by decide +kernel) (by decide) rfl ?_
        exact ih f A R z21 hI (fun k n886 n887 => (hG k n886 n887)) (fun k n66 n67 => (hF k n66 n67)) (fun k n5 => (hH k n5)) (by omega) (by omega)
set_option maxRecDepth 100000 in
set_option maxHeartbeats 8000000 in
theorem CM_135_1 {X : pm_X} {d : Nat} {wr : pm_W} {f : Nat → Int32} {A : Nat → List Int32} {R : Nat → Value} {x2 : Int32} {v : Nat} (hX : XO X) (hI : CI f A R) (hv : VV v) (hR0 : R 0 = .ref v) (hR2 : R 2 = .ref 33) : pmE pg X pg_tyl pg_cl (d + 4) 135 0 (pm_ent (pm_max pg 135) [.ref 55, .int 5, .int x2]) [] (cd f A R wr) (fun q => ∃ (f' : Nat → Int32) (A' : Nat → List Int32) (R' : Nat → Value), q = (none, cd f' A' R' wr, 0, 0) ∧ CI f' A' R' ∧ (∀ k : Nat, k ≠ 886 → k ≠ 887 → f' k = f k) ∧ (∀ k : Nat, k ≠ 66 → k ≠ 67 → A' k = A k) ∧ (∀ k : Nat, k ≠ 5 → R' k = R k) ∧ ((True))) := by
  have bv := VV_b hv
  show pmE pg X pg_tyl pg_cl (d + 4) 135 0 [.ref 55, .int 5, .int x2, pm_dead, pm_dead] [] (cd f A R wr) _
  refine pe_aload_n (j := 0) (by decide +kernel) rfl ?_
  refine pe_get (j := 22) (ci := 6) (n := 4) (by decide +kernel) (by decide +kernel) cd_o55 rfl ?_
  refine pe_iload_n (j := 1) (by decide +kernel) rfl ?_
  refine pe_iconstv (n := 1) (v := 1) (by decide +kernel) (by decide +kernel) ?_
  refine pe_isub (by decide +kernel) ?_
  refine pe_top (v := 4) (by decide +kernel) ?_
  refine pz_iald (by decide +kernel) cd_a66 (cl_66 hI) kz_4 (by omega) (by omega) (fun v2 ev2 => ?_)
  have rv2 : 0 ≤ v2.toInt ∧ v2.toInt ≤ 8 := ct_66 hI ev2
  refine pe_istore_n (j := 3) (ls' := [.ref 55, .int 5, .int x2, .int v2, pm_dead]) (by decide +kernel) (Nat.le_of_ble_eq_true rfl) rfl ?_
  refine pe_aload_n (j := 0) (by decide +kernel) rfl ?_
  refine pe_get (j := 12) (ci := 6) (n := 0) (by decide +kernel) (by decide +kernel) cd_o55 rfl ?_
  refine pe_topV (v := .ref 33) (hR2) ?_
  refine pe_iload_n (j := 3) (by decide +kernel) rfl ?_
  refine pe_aload_n (j := 0) (by decide +kernel) rfl ?_
  refine pe_get (j := 22) (ci := 6) (n := 4) (by decide +kernel) (by decide +kernel) cd_o55 rfl ?_
  refine pe_iconstv (n := 0) (v := 0) (by decide +kernel) (by decide +kernel) ?_
  refine pz_iald (by decide +kernel) cd_a66 (cl_66 hI) kz_0 (by omega) (by omega) (fun v3 ev3 => ?_)
  have rv3 : 0 ≤ v3.toInt ∧ v3.toInt ≤ 8 := ct_66 hI ev3
  refine pz_callV (j := 59) (mj := 77) (by decide +kernel) (cll_V (args := [.int v3, .int v2]) (n := 2) (by decide +kernel) rfl rfl cd_o33 (by decide +kernel) (Nat.le_of_ble_eq_true rfl) (Nat.le_of_ble_eq_true rfl)) (CM_77 hX hI hv (hR0) (by omega) (by omega)) (fun q4a q4b q4c q4d hqq4 => ?_)
  obtain ⟨rq4, eq4, kq4⟩ := hqq4
  cases eq4
  refine ⟨rfl, rfl, ?_⟩
  show pmE pg X pg_tyl pg_cl (d + 4) 135 23 [.ref 55, .int 5, .int x2, .int v2, pm_dead] [.int rq4] (cd f A R wr) _
  refine pe_aload_n (j := 0) (by decide +kernel) rfl ?_
  refine pe_get (j := 53) (ci := 6) (n := 2) (by decide +kernel) (by decide +kernel) cd_o55 rfl ?_
  have lw6 := zi_lo rq4
  have uw6 := zi_hi rq4
  have lw7 := zi_lo (f 882)
  have uw7 := zi_hi (f 882)
  refine pz_icmp_lt (off := 8) (t := 35) (by decide +kernel) (by decide) rfl rfl rfl (fun h5 => ?_) (fun h5 => ?_)
  · skip
    refine pe_iload_n (j := 1) (by decide +kernel) rfl ?_
    refine pe_bipushv (n := 6) (v := 6) (by decide +kernel) (by decide +kernel) ?_
    refine pz_icmp_lt (off := 4) (t := 42) (by decide +kernel) (by decide) rfl kz_5 kz_6 (fun h8 => ?_) (fun h8 => by omega)
    refine pe_iconstv (n := 0) (v := 0) (by decide +kernel) (by decide +kernel) ?_
    refine pe_istore (j := 4) (ls' := [.ref 55, .int 5, .int x2, .int v2, .int 0]) (by decide +kernel) (Nat.le_of_ble_eq_true rfl) rfl ?_
    refine CL_135_1_45 hX hv (hR0) (hR2) (by omega) (fun f9 A10 R11 y12 hIy13 hGf9 hFA10 hHR11 gy12 => ?_) 10 f A R 0 hI (fun k _ _ => rfl) (fun k _ _ => rfl) (fun k _ => rfl) (by decide +kernel) (by decide +kernel)
    exact pe_vret (by decide +kernel) rfl ⟨f9, A10, R11, rfl, hIy13, (fun k n886 n887 => (hGf9 k n886 n887)), (fun k n66 n67 => (hFA10 k n66 n67)), (fun k n5 => (hHR11 k n5)), trivial⟩
  · skip
    refine pe_aload_n (j := 0) (by decide +kernel) rfl ?_
    refine pe_iload_n (j := 1) (by decide +kernel) rfl ?_
    refine pz_callV (j := 66) (mj := 136) (by decide +kernel) (cll_V (args := [.int 5]) (n := 1) (by decide +kernel) rfl rfl cd_o55 (by decide +kernel) (Nat.le_of_ble_eq_true rfl) (Nat.le_of_ble_eq_true rfl)) (CM_136 hX hI hv (hR0) (hR2) (by decide +kernel)) (fun q14a q14b q14c q14d hqq14 => ?_)
    obtain ⟨f15, A16, R17, eq14, hIq14, hGq14, hFq14, hHq14, kq14⟩ := hqq14
    cases eq14
    refine ⟨rfl, rfl, ?_⟩
    show pmE pg X pg_tyl pg_cl (d + 4) 135 35 [.ref 55, .int 5, .int x2, .int v2, pm_dead] [] (cd f15 A16 R17 wr) _
    refine pe_iload_n (j := 1) (by decide +kernel) rfl ?_
    refine pe_bipushv (n := 6) (v := 6) (by decide +kernel) (by decide +kernel) ?_
    refine pz_icmp_lt (off := 4) (t := 42) (by decide +kernel) (by decide) rfl kz_5 kz_6 (fun h18 => ?_) (fun h18 => by omega)
    refine pe_iconstv (n := 0) (v := 0) (by decide +kernel) (by decide +kernel) ?_
    refine pe_istore (j := 4) (ls' := [.ref 55, .int 5, .int x2, .int v2, .int 0]) (by decide +kernel) (Nat.le_of_ble_eq_true rfl) rfl ?_
    refine CL_135_1_45 hX hv (((hHq14 0 (by decide))).trans (hR0)) (((hHq14 2 (by decide))).trans (hR2)) (by omega) (fun f19 A20 R21 y22 hIy23 hGf19 hFA20 hHR21 gy22 => ?_) 10 f15 A16 R17 0 hIq14 (fun k _ _ => rfl) (fun k _ _ => rfl) (fun k _ => rfl) (by decide +kernel) (by decide +kernel)
    exact pe_vret (by decide +kernel) rfl ⟨f19, A20, R21, rfl, hIy23, (fun k n886 n887 => ((hGf19 k n886 n887)).trans ((hGq14 k n886 n887))), (fun k n66 n67 => ((hFA20 k n66 n67)).trans ((hFq14 k n67))), (fun k n5 => ((hHR21 k n5)).trans ((hHq14 k n5))), trivial⟩
set_option maxRecDepth 100000 in
set_option maxHeartbeats 8000000 in
theorem CL_135_2_45 {X : pm_X} {d : Nat} {wr : pm_W} {Q : pm_R → Prop} {f0 : Nat → Int32} {A0 : Nat → List Int32} {R0 : Nat → Value} {x2 x3 : Int32} {v : Nat} (hX : XO X) (hv : VV v) (hR0 : R0 0 = .ref v) (hR2 : R0 2 = .ref 33) (gx3 : (0 ≤ x3.toInt ∧ x3.toInt ≤ 8)) (k_113_0 : ∀ (f' : Nat → Int32) (A' : Nat → List Int32) (R' : Nat → Value) (y4 : Int32), CI f' A' R' → (∀ k : Nat, k ≠ 886 → k ≠ 887 → f' k = f0 k) → (∀ k : Nat, k ≠ 66 → k ≠ 67 → A' k = A0 k) → (∀ k : Nat, k ≠ 5 → R' k = R0 k) → (0 ≤ y4.toInt ∧ y4.toInt ≤ 9) → pmE pg X pg_tyl pg_cl (d + 5) 135 113 [.ref 55, .int 4, .int x2, .int x3, .int y4] [] (cd f' A' R' wr) Q) : ∀ (m : Nat) (f : Nat → Int32) (A : Nat → List Int32) (R : Nat → Value) (x4 : Int32), CI f A R → (∀ k : Nat, k ≠ 886 → k ≠ 887 → f k = f0 k) → (∀ k : Nat, k ≠ 66 → k ≠ 67 → A k = A0 k) → (∀ k : Nat, k ≠ 5 → R k = R0 k) → (0 ≤ x4.toInt ∧ x4.toInt ≤ 9) → 9 - x4.toInt < (m : Int) → pmE pg X pg_tyl pg_cl (d + 5) 135 45 [.ref 55, .int 4, .int x2, .int x3, .int x4] [] (cd f A R wr) Q := by
  have bv := VV_b hv
  intro m
  induction m with
  | zero =>
    intro f A R x4 hI hG hF hH gx4 hm
    exfalso
    have l0 := zi_lo x4
    have u0 := zi_hi x4
    omega
  | succ m ih =>
    intro f A R x4 hI hG hF hH gx4 hm
    refine pe_iload (j := 4) (by decide +kernel) rfl ?_
    refine pe_aload_n (j := 0) (by decide +kernel) rfl ?_
    refine pe_get (j := 12) (ci := 6) (n := 0) (by decide +kernel) (by decide +kernel) cd_o55 rfl ?_
    refine pe_topV (v := .ref 33) (((hH 2 (by decide))).trans (hR2)) ?_
    refine pe_get (j := 28) (ci := 7) (n := 0) (by decide +kernel) (by decide +kernel) cd_o33 rfl ?_
    refine pe_topV (v := .ref v) (((hH 0 (by decide))).trans (hR0)) ?_
    refine pe_get (j := 70) (ci := 9) (n := 0) (by decide +kernel) (by decide +kernel) (cv_o hv) rfl ?_
    have hr_f_16v := cv_people hv hI
    refine pz_icmp_ge (off := 56) (t := 113) (by decide +kernel) (by decide) rfl rfl rfl (fun h1 => ?_) (fun h1 => ?_)
    · skip
      exact k_113_0 f A R x4 hI (fun k n886 n887 => (hG k n886 n887)) (fun k n66 n67 => (hF k n66 n67)) (fun k n5 => (hH k n5)) (by omega)
    · skip
      refine pe_iload_n (j := 2) (by decide +kernel) rfl ?_
      refine pe_iload (j := 4) (by decide +kernel) rfl ?_
      refine pi_S (j := 73) (mj := 89) (by decide +kernel) (by decide +kernel) rfl ?_
      show pmE pg X pg_tyl pg_cl (d + 4) 89 0 [.int x2, .int x4] [] (cd f A R wr) _
      refine pe_iload_n (j := 0) (by decide +kernel) rfl ?_
      refine pe_iload_n (j := 1) (by decide +kernel) rfl ?_
      refine pw_shr (by decide +kernel) (fun z2 => ?_)
      refine pe_iconstv (n := 1) (v := 1) (by decide +kernel) (by decide +kernel) ?_
      refine pz_and1 (by decide +kernel) (fun z3 hz3 => ?_)
      refine pz_if_eq (off := 7) (t := 12) (by decide +kernel) (by decide) rfl rfl (fun h4 => ?_) (fun h4 => ?_)
      · skip
        refine pe_iconstv (n := 0) (v := 0) (by decide +kernel) (by decide +kernel) ?_
        refine pe_iret (by decide +kernel) rfl rfl ⟨rfl, rfl, ?_⟩
        show pmE pg X pg_tyl pg_cl (d + 5) 135 66 [.ref 55, .int 4, .int x2, .int x3, .int x4] [.int 0] (cd f A R wr) _
        refine pz_if_ne (off := 41) (t := 107) (by decide +kernel) (by decide) rfl kz_0 (fun h5 => by omega) (fun h5 => ?_)
        refine pe_aload_n (j := 0) (by decide +kernel) rfl ?_
        refine pe_get (j := 12) (ci := 6) (n := 0) (by decide +kernel) (by decide +kernel) cd_o55 rfl ?_
        refine pe_topV (v := .ref 33) (((hH 2 (by decide))).trans (hR2)) ?_
        refine pe_iload_n (j := 3) (by decide +kernel) rfl ?_
        refine pe_iload (j := 4) (by decide +kernel) rfl ?_
        refine pz_callV (j := 59) (mj := 77) (by decide +kernel) (cll_V (args := [.int x4, .int x3]) (n := 2) (by decide +kernel) rfl rfl cd_o33 (by decide +kernel) (Nat.le_of_ble_eq_true rfl) (Nat.le_of_ble_eq_true rfl)) (CM_77 hX hI hv (((hH 0 (by decide))).trans (hR0)) (by omega) (by omega)) (fun q6a q6b q6c q6d hqq6 => ?_)
        obtain ⟨rq6, eq6, kq6⟩ := hqq6
        cases eq6
        refine ⟨rfl, rfl, ?_⟩
        show pmE pg X pg_tyl pg_cl (d + 5) 135 79 [.ref 55, .int 4, .int x2, .int x3, .int x4] [.int rq6] (cd f A R wr) _
        refine pe_aload_n (j := 0) (by decide +kernel) rfl ?_
        refine pe_get (j := 53) (ci := 6) (n := 2) (by decide +kernel) (by decide +kernel) cd_o55 rfl ?_
        have lw8 := zi_lo rq6
        have uw8 := zi_hi rq6
        have lw9 := zi_lo (f 882)
        have uw9 := zi_hi (f 882)
        refine pz_icmp_lt (off := 24) (t := 107) (by decide +kernel) (by decide) rfl rfl rfl (fun h7 => ?_) (fun h7 => ?_)
        · skip
          refine pz_iinc (j := 4) (n := 1) (by decide +kernel) rfl rfl (by decide +kernel) (by omega) (by omega) (fun z10 hz10 => ?_)
          show pmE pg X pg_tyl pg_cl (d + 5) 135 110 [.ref 55, .int 4, .int x2, .int x3, .int z10] [] (cd f A R wr) _
          refine pe_goto (off := (-65)) (t := 45) (by decide +kernel) (by decide) rfl ?_
          exact ih f A R z10 hI (fun k n886 n887 => (hG k n886 n887)) (fun k n66 n67 => (hF k n66 n67)) (fun k n5 => (hH k n5)) (by omega) (by omega)
        · skip
          refine pe_aload_n (j := 0) (by decide +kernel) rfl ?_
          refine pe_get (j := 22) (ci := 6) (n := 4) (by decide +kernel) (by decide +kernel) cd_o55 rfl ?_
          refine pe_iload_n (j := 1) (by decide +kernel) rfl ?_
          refine pe_iload (j := 4) (by decide +kernel) rfl ?_
          refine cz_st66 (by decide +kernel) hI kz_4 (by omega) (by omega) (by simp only [CT]; omega) (fun A11 eA11 hIA11 => ?_)
          refine pe_aload_n (j := 0) (by decide +kernel) rfl ?_
          refine pe_iload_n (j := 1) (by decide +kernel) rfl ?_
          refine pe_iconstv (n := 1) (v := 1) (by decide +kernel) (by decide +kernel) ?_
          refine pe_iadd (by decide +kernel) ?_
          refine pe_top (v := 5) (by decide +kernel) ?_
          refine pe_iload_n (j := 2) (by decide +kernel) rfl ?_
          refine pe_iconstv (n := 1) (v := 1) (by decide +kernel) (by decide +kernel) ?_
          refine pe_iload (j := 4) (by decide +kernel) rfl ?_
          refine pz_shl1 (by decide +kernel) rfl (by omega) (by omega) (fun z13 hz13 => ?_)
          refine pw_or (by decide +kernel) (fun z14 => ?_)
          refine pz_callS (j := 62) (mj := 135) (by decide +kernel) (by decide +kernel) rfl (CM_135_1 hX hIA11 hv (((hH 0 (by decide))).trans (hR0)) (((hH 2 (by decide))).trans (hR2))) (fun q15a q15b q15c q15d hqq15 => ?_)
          obtain ⟨f16, A17, R18, eq15, hIq15, hGq15, hFq15, hHq15, kq15⟩ := hqq15
          cases eq15
          refine ⟨rfl, rfl, ?_⟩
          show pmE pg X pg_tyl pg_cl (d + 5) 135 107 [.ref 55, .int 4, .int x2, .int x3, .int x4] [] (cd f16 A17 R18 wr) _
          refine pz_iinc (j := 4) (n := 1) (by decide +kernel) rfl rfl (by decide +kernel) (by omega) (by omega) (fun z19 hz19 => ?_)
          show pmE pg X pg_tyl pg_cl (d + 5) 135 110 [.ref 55, .int 4, .int x2, .int x3, .int z19] [] (cd f16 A17 R18 wr) _
          refine pe_goto (off := (-65)) (t := 45) (by decide +kernel) (by decide) rfl ?_
          exact ih f16 A17 R18 z19 hIq15 (fun k n886 n887 => ((hGq15 k n886 n887)).trans ((hG k n886 n887))) (fun k n66 n67 => ((hFq15 k n66 n67)).trans ((upa_fr eA11 n66).trans ((hF k n66 n67)))) (fun k n5 => ((hHq15 k n5)).trans ((hH k n5))) (by omega) (by omega)
      · skip
        refine pe_iconstv (n := 1) (v := 1) (by decide +kernel) (by decide +kernel) ?_
        refine pe_goto (off := 4) (t := 13) (by decide +kernel) (by decide) rfl ?_
        refine pe_iret (by decide +kernel) rfl rfl ⟨rfl, rfl, ?_⟩
        show pmE pg X pg_tyl pg_cl (d + 5) 135 66 [.ref 55, .int 4, .int x2, .int x3, .int x4] [.int 1] (cd f A R wr) _
        refine pz_if_ne (off := 41) (t := 107) (by decide +kernel) (by decide) rfl kz_1 (fun h20 => ?_) (fun h20 => by omega)
        refine pz_iinc (j := 4) (n := 1) (by decide +kernel) rfl rfl (by decide +kernel) (by omega) (by omega) (fun z21 hz21 => ?_)
        show pmE pg X pg_tyl pg_cl (d + 5) 135 110 [.ref 55, .int 4, .int x2, .int x3, .int z21] [] (cd f A R wr) _
        refine pe_goto (off := (-65)) (t := 45) (by decide +kernel) (by decide) rfl ?_
        exact ih f A R z21 hI (fun k n886 n887 => (hG k n886 n887)) (fun k n66 n67 => (hF k n66 n67)) (fun k n5 => (hH k n5)) (by omega) (by omega)
set_option maxRecDepth 100000 in
set_option maxHeartbeats 8000000 in
theorem CM_135_2 {X : pm_X} {d : Nat} {wr : pm_W} {f : Nat → Int32} {A : Nat → List Int32} {R : Nat → Value} {x2 : Int32} {v : Nat} (hX : XO X) (hI : CI f A R) (hv : VV v) (hR0 : R 0 = .ref v) (hR2 : R 2 = .ref 33) : pmE pg X pg_tyl pg_cl (d + 5) 135 0 (pm_ent (pm_max pg 135) [.ref 55, .int 4, .int x2]) [] (cd f A R wr) (fun q => ∃ (f' : Nat → Int32) (A' : Nat → List Int32) (R' : Nat → Value), q = (none, cd f' A' R' wr, 0, 0) ∧ CI f' A' R' ∧ (∀ k : Nat, k ≠ 886 → k ≠ 887 → f' k = f k) ∧ (∀ k : Nat, k ≠ 66 → k ≠ 67 → A' k = A k) ∧ (∀ k : Nat, k ≠ 5 → R' k = R k) ∧ ((True))) := by
  have bv := VV_b hv
  show pmE pg X pg_tyl pg_cl (d + 5) 135 0 [.ref 55, .int 4, .int x2, pm_dead, pm_dead] [] (cd f A R wr) _
  refine pe_aload_n (j := 0) (by decide +kernel) rfl ?_
  refine pe_get (j := 22) (ci := 6) (n := 4) (by decide +kernel) (by decide +kernel) cd_o55 rfl ?_
  refine pe_iload_n (j := 1) (by decide +kernel) rfl ?_
  refine pe_iconstv (n := 1) (v := 1) (by decide +kernel) (by decide +kernel) ?_
  refine pe_isub (by decide +kernel) ?_
  refine pe_top (v := 3) (by decide +kernel) ?_
  refine pz_iald (by decide +kernel) cd_a66 (cl_66 hI) kz_3 (by omega) (by omega) (fun v2 ev2 => ?_)
  have rv2 : 0 ≤ v2.toInt ∧ v2.toInt ≤ 8 := ct_66 hI ev2
  refine pe_istore_n (j := 3) (ls' := [.ref 55, .int 4, .int x2, .int v2, pm_dead]) (by decide +kernel) (Nat.le_of_ble_eq_true rfl) rfl ?_
  refine pe_aload_n (j := 0) (by decide +kernel) rfl ?_
  refine pe_get (j := 12) (ci := 6) (n := 0) (by decide +kernel) (by decide +kernel) cd_o55 rfl ?_
  refine pe_topV (v := .ref 33) (hR2) ?_
  refine pe_iload_n (j := 3) (by decide +kernel) rfl ?_
  refine pe_aload_n (j := 0) (by decide +kernel) rfl ?_
  refine pe_get (j := 22) (ci := 6) (n := 4) (by decide +kernel) (by decide +kernel) cd_o55 rfl ?_
  refine pe_iconstv (n := 0) (v := 0) (by decide +kernel) (by decide +kernel) ?_
  refine pz_iald (by decide +kernel) cd_a66 (cl_66 hI) kz_0 (by omega) (by omega) (fun v3 ev3 => ?_)
  have rv3 : 0 ≤ v3.toInt ∧ v3.toInt ≤ 8 := ct_66 hI ev3
  refine pz_callV (j := 59) (mj := 77) (by decide +kernel) (cll_V (args := [.int v3, .int v2]) (n := 2) (by decide +kernel) rfl rfl cd_o33 (by decide +kernel) (Nat.le_of_ble_eq_true rfl) (Nat.le_of_ble_eq_true rfl)) (CM_77 hX hI hv (hR0) (by omega) (by omega)) (fun q4a q4b q4c q4d hqq4 => ?_)
  obtain ⟨rq4, eq4, kq4⟩ := hqq4
  cases eq4
  refine ⟨rfl, rfl, ?_⟩
  show pmE pg X pg_tyl pg_cl (d + 5) 135 23 [.ref 55, .int 4, .int x2, .int v2, pm_dead] [.int rq4] (cd f A R wr) _
  refine pe_aload_n (j := 0) (by decide +kernel) rfl ?_
  refine pe_get (j := 53) (ci := 6) (n := 2) (by decide +kernel) (by decide +kernel) cd_o55 rfl ?_
  have lw6 := zi_lo rq4
  have uw6 := zi_hi rq4
  have lw7 := zi_lo (f 882)
  have uw7 := zi_hi (f 882)
  refine pz_icmp_lt (off := 8) (t := 35) (by decide +kernel) (by decide) rfl rfl rfl (fun h5 => ?_) (fun h5 => ?_)
  · skip
    refine pe_iload_n (j := 1) (by decide +kernel) rfl ?_
    refine pe_bipushv (n := 6) (v := 6) (by decide +kernel) (by decide +kernel) ?_
    refine pz_icmp_lt (off := 4) (t := 42) (by decide +kernel) (by decide) rfl kz_4 kz_6 (fun h8 => ?_) (fun h8 => by omega)
    refine pe_iconstv (n := 0) (v := 0) (by decide +kernel) (by decide +kernel) ?_
    refine pe_istore (j := 4) (ls' := [.ref 55, .int 4, .int x2, .int v2, .int 0]) (by decide +kernel) (Nat.le_of_ble_eq_true rfl) rfl ?_
    refine CL_135_2_45 hX hv (hR0) (hR2) (by omega) (fun f9 A10 R11 y12 hIy13 hGf9 hFA10 hHR11 gy12 => ?_) 10 f A R 0 hI (fun k _ _ => rfl) (fun k _ _ => rfl) (fun k _ => rfl) (by decide +kernel) (by decide +kernel)
    exact pe_vret (by decide +kernel) rfl ⟨f9, A10, R11, rfl, hIy13, (fun k n886 n887 => (hGf9 k n886 n887)), (fun k n66 n67 => (hFA10 k n66 n67)), (fun k n5 => (hHR11 k n5)), trivial⟩
  · skip
    refine pe_aload_n (j := 0) (by decide +kernel) rfl ?_
    refine pe_iload_n (j := 1) (by decide +kernel) rfl ?_
    refine pz_callV (j := 66) (mj := 136) (by decide +kernel) (cll_V (args := [.int 4]) (n := 1) (by decide +kernel) rfl rfl cd_o55 (by decide +kernel) (Nat.le_of_ble_eq_true rfl) (Nat.le_of_ble_eq_true rfl)) (CM_136 hX hI hv (hR0) (hR2) (by decide +kernel)) (fun q14a q14b q14c q14d hqq14 => ?_)
    obtain ⟨f15, A16, R17, eq14, hIq14, hGq14, hFq14, hHq14, kq14⟩ := hqq14
    cases eq14
    refine ⟨rfl, rfl, ?_⟩
    show pmE pg X pg_tyl pg_cl (d + 5) 135 35 [.ref 55, .int 4, .int x2, .int v2, pm_dead] [] (cd f15 A16 R17 wr) _
    refine pe_iload_n (j := 1) (by decide +kernel) rfl ?_
    refine pe_bipushv (n := 6) (v := 6) (by decide +kernel) (by decide +kernel) ?_
    refine pz_icmp_lt (off := 4) (t := 42) (by decide +kernel) (by decide) rfl kz_4 kz_6 (fun h18 => ?_) (fun h18 => by omega)
    refine pe_iconstv (n := 0) (v := 0) (by decide +kernel) (by decide +kernel) ?_
    refine pe_istore (j := 4) (ls' := [.ref 55, .int 4, .int x2, .int v2, .int 0]) (by decide +kernel) (Nat.le_of_ble_eq_true rfl) rfl ?_
    refine CL_135_2_45 hX hv (((hHq14 0 (by decide))).trans (hR0)) (((hHq14 2 (by decide))).trans (hR2)) (by omega) (fun f19 A20 R21 y22 hIy23 hGf19 hFA20 hHR21 gy22 => ?_) 10 f15 A16 R17 0 hIq14 (fun k _ _ => rfl) (fun k _ _ => rfl) (fun k _ => rfl) (by decide +kernel) (by decide +kernel)
    exact pe_vret (by decide +kernel) rfl ⟨f19, A20, R21, rfl, hIy23, (fun k n886 n887 => ((hGf19 k n886 n887)).trans ((hGq14 k n886 n887))), (fun k n66 n67 => ((hFA20 k n66 n67)).trans ((hFq14 k n67))), (fun k n5 => ((hHR21 k n5)).trans ((hHq14 k n5))), trivial⟩
set_option maxRecDepth 100000 in
set_option maxHeartbeats 8000000 in
theorem CL_135_3_45 {X : pm_X} {d : Nat} {wr : pm_W} {Q : pm_R → Prop} {f0 : Nat → Int32} {A0 : Nat → List Int32} {R0 : Nat → Value} {x2 x3 : Int32} {v : Nat} (hX : XO X) (hv : VV v) (hR0 : R0 0 = .ref v) (hR2 : R0 2 = .ref 33) (gx3 : (0 ≤ x3.toInt ∧ x3.toInt ≤ 8)) (k_113_0 : ∀ (f' : Nat → Int32) (A' : Nat → List Int32) (R' : Nat → Value) (y4 : Int32), CI f' A' R' → (∀ k : Nat, k ≠ 886 → k ≠ 887 → f' k = f0 k) → (∀ k : Nat, k ≠ 66 → k ≠ 67 → A' k = A0 k) → (∀ k : Nat, k ≠ 5 → R' k = R0 k) → (0 ≤ y4.toInt ∧ y4.toInt ≤ 9) → pmE pg X pg_tyl pg_cl (d + 6) 135 113 [.ref 55, .int 3, .int x2, .int x3, .int y4] [] (cd f' A' R' wr) Q) : ∀ (m : Nat) (f : Nat → Int32) (A : Nat → List Int32) (R : Nat → Value) (x4 : Int32), CI f A R → (∀ k : Nat, k ≠ 886 → k ≠ 887 → f k = f0 k) → (∀ k : Nat, k ≠ 66 → k ≠ 67 → A k = A0 k) → (∀ k : Nat, k ≠ 5 → R k = R0 k) → (0 ≤ x4.toInt ∧ x4.toInt ≤ 9) → 9 - x4.toInt < (m : Int) → pmE pg X pg_tyl pg_cl (d + 6) 135 45 [.ref 55, .int 3, .int x2, .int x3, .int x4] [] (cd f A R wr) Q := by
  have bv := VV_b hv
  intro m
  induction m with
  | zero =>
    intro f A R x4 hI hG hF hH gx4 hm
    exfalso
    have l0 := zi_lo x4
    have u0 := zi_hi x4
    omega
  | succ m ih =>
    intro f A R x4 hI hG hF hH gx4 hm
    refine pe_iload (j := 4) (by decide +kernel) rfl ?_
    refine pe_aload_n (j := 0) (by decide +kernel) rfl ?_
    refine pe_get (j := 12) (ci := 6) (n := 0) (by decide +kernel) (by decide +kernel) cd_o55 rfl ?_
    refine pe_topV (v := .ref 33) (((hH 2 (by decide))).trans (hR2)) ?_
    refine pe_get (j := 28) (ci := 7) (n := 0) (by decide +kernel) (by decide +kernel) cd_o33 rfl ?_
    refine pe_topV (v := .ref v) (((hH 0 (by decide))).trans (hR0)) ?_
    refine pe_get (j := 70) (ci := 9) (n := 0) (by decide +kernel) (by decide +kernel) (cv_o hv) rfl ?_
    have hr_f_16v := cv_people hv hI
    refine pz_icmp_ge (off := 56) (t := 113) (by decide +kernel) (by decide) rfl rfl rfl (fun h1 => ?_) (fun h1 => ?_)
    · skip
      exact k_113_0 f A R x4 hI (fun k n886 n887 => (hG k n886 n887)) (fun k n66 n67 => (hF k n66 n67)) (fun k n5 => (hH k n5)) (by omega)
    · skip
      refine pe_iload_n (j := 2) (by decide +kernel) rfl ?_
      refine pe_iload (j := 4) (by decide +kernel) rfl ?_
      refine pi_S (j := 73) (mj := 89) (by decide +kernel) (by decide +kernel) rfl ?_
      show pmE pg X pg_tyl pg_cl (d + 5) 89 0 [.int x2, .int x4] [] (cd f A R wr) _
      refine pe_iload_n (j := 0) (by decide +kernel) rfl ?_
      refine pe_iload_n (j := 1) (by decide +kernel) rfl ?_
      refine pw_shr (by decide +kernel) (fun z2 => ?_)
      refine pe_iconstv (n := 1) (v := 1) (by decide +kernel) (by decide +kernel) ?_
      refine pz_and1 (by decide +kernel) (fun z3 hz3 => ?_)
      refine pz_if_eq (off := 7) (t := 12) (by decide +kernel) (by decide) rfl rfl (fun h4 => ?_) (fun h4 => ?_)
      · skip
        refine pe_iconstv (n := 0) (v := 0) (by decide +kernel) (by decide +kernel) ?_
        refine pe_iret (by decide +kernel) rfl rfl ⟨rfl, rfl, ?_⟩
        show pmE pg X pg_tyl pg_cl (d + 6) 135 66 [.ref 55, .int 3, .int x2, .int x3, .int x4] [.int 0] (cd f A R wr) _
        refine pz_if_ne (off := 41) (t := 107) (by decide +kernel) (by decide) rfl kz_0 (fun h5 => by omega) (fun h5 => ?_)
        refine pe_aload_n (j := 0) (by decide +kernel) rfl ?_
        refine pe_get (j := 12) (ci := 6) (n := 0) (by decide +kernel) (by decide +kernel) cd_o55 rfl ?_
        refine pe_topV (v := .ref 33) (((hH 2 (by decide))).trans (hR2)) ?_
        refine pe_iload_n (j := 3) (by decide +kernel) rfl ?_
        refine pe_iload (j := 4) (by decide +kernel) rfl ?_
        refine pz_callV (j := 59) (mj := 77) (by decide +kernel) (cll_V (args := [.int x4, .int x3]) (n := 2) (by decide +kernel) rfl rfl cd_o33 (by decide +kernel) (Nat.le_of_ble_eq_true rfl) (Nat.le_of_ble_eq_true rfl)) (CM_77 hX hI hv (((hH 0 (by decide))).trans (hR0)) (by omega) (by omega)) (fun q6a q6b q6c q6d hqq6 => ?_)
        obtain ⟨rq6, eq6, kq6⟩ := hqq6
        cases eq6
        refine ⟨rfl, rfl, ?_⟩
        show pmE pg X pg_tyl pg_cl (d + 6) 135 79 [.ref 55, .int 3, .int x2, .int x3, .int x4] [.int rq6] (cd f A R wr) _
        refine pe_aload_n (j := 0) (by decide +kernel) rfl ?_
        refine pe_get (j := 53) (ci := 6) (n := 2) (by decide +kernel) (by decide +kernel) cd_o55 rfl ?_
        have lw8 := zi_lo rq6
        have uw8 := zi_hi rq6
        have lw9 := zi_lo (f 882)
        have uw9 := zi_hi (f 882)
        refine pz_icmp_lt (off := 24) (t := 107) (by decide +kernel) (by decide) rfl rfl rfl (fun h7 => ?_) (fun h7 => ?_)
        · skip
          refine pz_iinc (j := 4) (n := 1) (by decide +kernel) rfl rfl (by decide +kernel) (by omega) (by omega) (fun z10 hz10 => ?_)
          show pmE pg X pg_tyl pg_cl (d + 6) 135 110 [.ref 55, .int 3, .int x2, .int x3, .int z10] [] (cd f A R wr) _
          refine pe_goto (off := (-65)) (t := 45) (by decide +kernel) (by decide) rfl ?_
          exact ih f A R z10 hI (fun k n886 n887 => (hG k n886 n887)) (fun k n66 n67 => (hF k n66 n67)) (fun k n5 => (hH k n5)) (by omega) (by omega)
        · skip
          refine pe_aload_n (j := 0) (by decide +kernel) rfl ?_
          refine pe_get (j := 22) (ci := 6) (n := 4) (by decide +kernel) (by decide +kernel) cd_o55 rfl ?_
          refine pe_iload_n (j := 1) (by decide +kernel) rfl ?_
          refine pe_iload (j := 4) (by decide +kernel) rfl ?_
          refine cz_st66 (by decide +kernel) hI kz_3 (by omega) (by omega) (by simp only [CT]; omega) (fun A11 eA11 hIA11 => ?_)
          refine pe_aload_n (j := 0) (by decide +kernel) rfl ?_
          refine pe_iload_n (j := 1) (by decide +kernel) rfl ?_
          refine pe_iconstv (n := 1) (v := 1) (by decide +kernel) (by decide +kernel) ?_
          refine pe_iadd (by decide +kernel) ?_
          refine pe_top (v := 4) (by decide +kernel) ?_
          refine pe_iload_n (j := 2) (by decide +kernel) rfl ?_
          refine pe_iconstv (n := 1) (v := 1) (by decide +kernel) (by decide +kernel) ?_
          refine pe_iload (j := 4) (by decide +kernel) rfl ?_
          refine pz_shl1 (by decide +kernel) rfl (by omega) (by omega) (fun z13 hz13 => ?_)
          refine pw_or (by decide +kernel) (fun z14 => ?_)
          refine pz_callS (j := 62) (mj := 135) (by decide +kernel) (by decide +kernel) rfl (CM_135_2 hX hIA11 hv (((hH 0 (by decide))).trans (hR0)) (((hH 2 (by decide))).trans (hR2))) (fun q15a q15b q15c q15d hqq15 => ?_)
          obtain ⟨f16, A17, R18, eq15, hIq15, hGq15, hFq15, hHq15, kq15⟩ := hqq15
          cases eq15
          refine ⟨rfl, rfl, ?_⟩
          show pmE pg X pg_tyl pg_cl (d + 6) 135 107 [.ref 55, .int 3, .int x2, .int x3, .int x4] [] (cd f16 A17 R18 wr) _
          refine pz_iinc (j := 4) (n := 1) (by decide +kernel) rfl rfl (by decide +kernel) (by omega) (by omega) (fun z19 hz19 => ?_)
          show pmE pg X pg_tyl pg_cl (d + 6) 135 110 [.ref 55, .int 3, .int x2, .int x3, .int z19] [] (cd f16 A17 R18 wr) _
          refine pe_goto (off := (-65)) (t := 45) (by decide +kernel) (by decide) rfl ?_
          exact ih f16 A17 R18 z19 hIq15 (fun k n886 n887 => ((hGq15 k n886 n887)).trans ((hG k n886 n887))) (fun k n66 n67 => ((hFq15 k n66 n67)).trans ((upa_fr eA11 n66).trans ((hF k n66 n67)))) (fun k n5 => ((hHq15 k n5)).trans ((hH k n5))) (by omega) (by omega)
      · skip
        refine pe_iconstv (n := 1) (v := 1) (by decide +kernel) (by decide +kernel) ?_
        refine pe_goto (off := 4) (t := 13) (by decide +kernel) (by decide) rfl ?_
        refine pe_iret (by decide +kernel) rfl rfl ⟨rfl, rfl, ?_⟩
        show pmE pg X pg_tyl pg_cl (d + 6) 135 66 [.ref 55, .int 3, .int x2, .int x3, .int x4] [.int 1] (cd f A R wr) _
        refine pz_if_ne (off := 41) (t := 107) (by decide +kernel) (by decide) rfl kz_1 (fun h20 => ?_) (fun h20 => by omega)
        refine pz_iinc (j := 4) (n := 1) (by decide +kernel) rfl rfl (by decide +kernel) (by omega) (by omega) (fun z21 hz21 => ?_)
        show pmE pg X pg_tyl pg_cl (d + 6) 135 110 [.ref 55, .int 3, .int x2, .int x3, .int z21] [] (cd f A R wr) _
        refine pe_goto (off := (-65)) (t := 45) (by decide +kernel) (by decide) rfl ?_
        exact ih f A R z21 hI (fun k n886 n887 => (hG k n886 n887)) (fun k n66 n67 => (hF k n66 n67)) (fun k n5 => (hH k n5)) (by omega) (by omega)
set_option maxRecDepth 100000 in
set_option maxHeartbeats 8000000 in
theorem CM_135_3 {X : pm_X} {d : Nat} {wr : pm_W} {f : Nat → Int32} {A : Nat → List Int32} {R : Nat → Value} {x2 : Int32} {v : Nat} (hX : XO X) (hI : CI f A R) (hv : VV v) (hR0 : R 0 = .ref v) (hR2 : R 2 = .ref 33) : pmE pg X pg_tyl pg_cl (d + 6) 135 0 (pm_ent (pm_max pg 135) [.ref 55, .int 3, .int x2]) [] (cd f A R wr) (fun q => ∃ (f' : Nat → Int32) (A' : Nat → List Int32) (R' : Nat → Value), q = (none, cd f' A' R' wr, 0, 0) ∧ CI f' A' R' ∧ (∀ k : Nat, k ≠ 886 → k ≠ 887 → f' k = f k) ∧ (∀ k : Nat, k ≠ 66 → k ≠ 67 → A' k = A k) ∧ (∀ k : Nat, k ≠ 5 → R' k = R k) ∧ ((True))) := by
  have bv := VV_b hv
  show pmE pg X pg_tyl pg_cl (d + 6) 135 0 [.ref 55, .int 3, .int x2, pm_dead, pm_dead] [] (cd f A R wr) _
  refine pe_aload_n (j := 0) (by decide +kernel) rfl ?_
  refine pe_get (j := 22) (ci := 6) (n := 4) (by decide +kernel) (by decide +kernel) cd_o55 rfl ?_
  refine pe_iload_n (j := 1) (by decide +kernel) rfl ?_
  refine pe_iconstv (n := 1) (v := 1) (by decide +kernel) (by decide +kernel) ?_
  refine pe_isub (by decide +kernel) ?_
  refine pe_top (v := 2) (by decide +kernel) ?_
  refine pz_iald (by decide +kernel) cd_a66 (cl_66 hI) kz_2 (by omega) (by omega) (fun v2 ev2 => ?_)
  have rv2 : 0 ≤ v2.toInt ∧ v2.toInt ≤ 8 := ct_66 hI ev2
  refine pe_istore_n (j := 3) (ls' := [.ref 55, .int 3, .int x2, .int v2, pm_dead]) (by decide +kernel) (Nat.le_of_ble_eq_true rfl) rfl ?_
  refine pe_aload_n (j := 0) (by decide +kernel) rfl ?_
  refine pe_get (j := 12) (ci := 6) (n := 0) (by decide +kernel) (by decide +kernel) cd_o55 rfl ?_
  refine pe_topV (v := .ref 33) (hR2) ?_
  refine pe_iload_n (j := 3) (by decide +kernel) rfl ?_
  refine pe_aload_n (j := 0) (by decide +kernel) rfl ?_
  refine pe_get (j := 22) (ci := 6) (n := 4) (by decide +kernel) (by decide +kernel) cd_o55 rfl ?_
  refine pe_iconstv (n := 0) (v := 0) (by decide +kernel) (by decide +kernel) ?_
  refine pz_iald (by decide +kernel) cd_a66 (cl_66 hI) kz_0 (by omega) (by omega) (fun v3 ev3 => ?_)
  have rv3 : 0 ≤ v3.toInt ∧ v3.toInt ≤ 8 := ct_66 hI ev3
  refine pz_callV (j := 59) (mj := 77) (by decide +kernel) (cll_V (args := [.int v3, .int v2]) (n := 2) (by decide +kernel) rfl rfl cd_o33 (by decide +kernel) (Nat.le_of_ble_eq_true rfl) (Nat.le_of_ble_eq_true rfl)) (CM_77 hX hI hv (hR0) (by omega) (by omega)) (fun q4a q4b q4c q4d hqq4 => ?_)
  obtain ⟨rq4, eq4, kq4⟩ := hqq4
  cases eq4
  refine ⟨rfl, rfl, ?_⟩
  show pmE pg X pg_tyl pg_cl (d + 6) 135 23 [.ref 55, .int 3, .int x2, .int v2, pm_dead] [.int rq4] (cd f A R wr) _
  refine pe_aload_n (j := 0) (by decide +kernel) rfl ?_
  refine pe_get (j := 53) (ci := 6) (n := 2) (by decide +kernel) (by decide +kernel) cd_o55 rfl ?_
  have lw6 := zi_lo rq4
  have uw6 := zi_hi rq4
  have lw7 := zi_lo (f 882)
  have uw7 := zi_hi (f 882)
  refine pz_icmp_lt (off := 8) (t := 35) (by decide +kernel) (by decide) rfl rfl rfl (fun h5 => ?_) (fun h5 => ?_)
  · skip
    refine pe_iload_n (j := 1) (by decide +kernel) rfl ?_
    refine pe_bipushv (n := 6) (v := 6) (by decide +kernel) (by decide +kernel) ?_
    refine pz_icmp_lt (off := 4) (t := 42) (by decide +kernel) (by decide) rfl kz_3 kz_6 (fun h8 => ?_) (fun h8 => by omega)
    refine pe_iconstv (n := 0) (v := 0) (by decide +kernel) (by decide +kernel) ?_
    refine pe_istore (j := 4) (ls' := [.ref 55, .int 3, .int x2, .int v2, .int 0]) (by decide +kernel) (Nat.le_of_ble_eq_true rfl) rfl ?_
    refine CL_135_3_45 hX hv (hR0) (hR2) (by omega) (fun f9 A10 R11 y12 hIy13 hGf9 hFA10 hHR11 gy12 => ?_) 10 f A R 0 hI (fun k _ _ => rfl) (fun k _ _ => rfl) (fun k _ => rfl) (by decide +kernel) (by decide +kernel)
    exact pe_vret (by decide +kernel) rfl ⟨f9, A10, R11, rfl, hIy13, (fun k n886 n887 => (hGf9 k n886 n887)), (fun k n66 n67 => (hFA10 k n66 n67)), (fun k n5 => (hHR11 k n5)), trivial⟩
  · skip
    refine pe_aload_n (j := 0) (by decide +kernel) rfl ?_
    refine pe_iload_n (j := 1) (by decide +kernel) rfl ?_
    refine pz_callV (j := 66) (mj := 136) (by decide +kernel) (cll_V (args := [.int 3]) (n := 1) (by decide +kernel) rfl rfl cd_o55 (by decide +kernel) (Nat.le_of_ble_eq_true rfl) (Nat.le_of_ble_eq_true rfl)) (CM_136 hX hI hv (hR0) (hR2) (by decide +kernel)) (fun q14a q14b q14c q14d hqq14 => ?_)
    obtain ⟨f15, A16, R17, eq14, hIq14, hGq14, hFq14, hHq14, kq14⟩ := hqq14
    cases eq14
    refine ⟨rfl, rfl, ?_⟩
    show pmE pg X pg_tyl pg_cl (d + 6) 135 35 [.ref 55, .int 3, .int x2, .int v2, pm_dead] [] (cd f15 A16 R17 wr) _
    refine pe_iload_n (j := 1) (by decide +kernel) rfl ?_
    refine pe_bipushv (n := 6) (v := 6) (by decide +kernel) (by decide +kernel) ?_
    refine pz_icmp_lt (off := 4) (t := 42) (by decide +kernel) (by decide) rfl kz_3 kz_6 (fun h18 => ?_) (fun h18 => by omega)
    refine pe_iconstv (n := 0) (v := 0) (by decide +kernel) (by decide +kernel) ?_
    refine pe_istore (j := 4) (ls' := [.ref 55, .int 3, .int x2, .int v2, .int 0]) (by decide +kernel) (Nat.le_of_ble_eq_true rfl) rfl ?_
    refine CL_135_3_45 hX hv (((hHq14 0 (by decide))).trans (hR0)) (((hHq14 2 (by decide))).trans (hR2)) (by omega) (fun f19 A20 R21 y22 hIy23 hGf19 hFA20 hHR21 gy22 => ?_) 10 f15 A16 R17 0 hIq14 (fun k _ _ => rfl) (fun k _ _ => rfl) (fun k _ => rfl) (by decide +kernel) (by decide +kernel)
    exact pe_vret (by decide +kernel) rfl ⟨f19, A20, R21, rfl, hIy23, (fun k n886 n887 => ((hGf19 k n886 n887)).trans ((hGq14 k n886 n887))), (fun k n66 n67 => ((hFA20 k n66 n67)).trans ((hFq14 k n67))), (fun k n5 => ((hHR21 k n5)).trans ((hHq14 k n5))), trivial⟩
set_option maxRecDepth 100000 in
set_option maxHeartbeats 8000000 in
theorem CL_135_4_45 {X : pm_X} {d : Nat} {wr : pm_W} {Q : pm_R → Prop} {f0 : Nat → Int32} {A0 : Nat → List Int32} {R0 : Nat → Value} {x2 x3 : Int32} {v : Nat} (hX : XO X) (hv : VV v) (hR0 : R0 0 = .ref v) (hR2 : R0 2 = .ref 33) (gx3 : (0 ≤ x3.toInt ∧ x3.toInt ≤ 8)) (k_113_0 : ∀ (f' : Nat → Int32) (A' : Nat → List Int32) (R' : Nat → Value) (y4 : Int32), CI f' A' R' → (∀ k : Nat, k ≠ 886 → k ≠ 887 → f' k = f0 k) → (∀ k : Nat, k ≠ 66 → k ≠ 67 → A' k = A0 k) → (∀ k : Nat, k ≠ 5 → R' k = R0 k) → (0 ≤ y4.toInt ∧ y4.toInt ≤ 9) → pmE pg X pg_tyl pg_cl (d + 7) 135 113 [.ref 55, .int 2, .int x2, .int x3, .int y4] [] (cd f' A' R' wr) Q) : ∀ (m : Nat) (f : Nat → Int32) (A : Nat → List Int32) (R : Nat → Value) (x4 : Int32), CI f A R → (∀ k : Nat, k ≠ 886 → k ≠ 887 → f k = f0 k) → (∀ k : Nat, k ≠ 66 → k ≠ 67 → A k = A0 k) → (∀ k : Nat, k ≠ 5 → R k = R0 k) → (0 ≤ x4.toInt ∧ x4.toInt ≤ 9) → 9 - x4.toInt < (m : Int) → pmE pg X pg_tyl pg_cl (d + 7) 135 45 [.ref 55, .int 2, .int x2, .int x3, .int x4] [] (cd f A R wr) Q := by
  have bv := VV_b hv
  intro m
  induction m with
  | zero =>
    intro f A R x4 hI hG hF hH gx4 hm
    exfalso
    have l0 := zi_lo x4
    have u0 := zi_hi x4
    omega
  | succ m ih =>
    intro f A R x4 hI hG hF hH gx4 hm
    refine pe_iload (j := 4) (by decide +kernel) rfl ?_
    refine pe_aload_n (j := 0) (by decide +kernel) rfl ?_
    refine pe_get (j := 12) (ci := 6) (n := 0) (by decide +kernel) (by decide +kernel) cd_o55 rfl ?_
    refine pe_topV (v := .ref 33) (((hH 2 (by decide))).trans (hR2)) ?_
    refine pe_get (j := 28) (ci := 7) (n := 0) (by decide +kernel) (by decide +kernel) cd_o33 rfl ?_
    refine pe_topV (v := .ref v) (((hH 0 (by decide))).trans (hR0)) ?_
    refine pe_get (j := 70) (ci := 9) (n := 0) (by decide +kernel) (by decide +kernel) (cv_o hv) rfl ?_
    have hr_f_16v := cv_people hv hI
    refine pz_icmp_ge (off := 56) (t := 113) (by decide +kernel) (by decide) rfl rfl rfl (fun h1 => ?_) (fun h1 => ?_)
    · skip
      exact k_113_0 f A R x4 hI (fun k n886 n887 => (hG k n886 n887)) (fun k n66 n67 => (hF k n66 n67)) (fun k n5 => (hH k n5)) (by omega)
    · skip
      refine pe_iload_n (j := 2) (by decide +kernel) rfl ?_
      refine pe_iload (j := 4) (by decide +kernel) rfl ?_
      refine pi_S (j := 73) (mj := 89) (by decide +kernel) (by decide +kernel) rfl ?_
      show pmE pg X pg_tyl pg_cl (d + 6) 89 0 [.int x2, .int x4] [] (cd f A R wr) _
      refine pe_iload_n (j := 0) (by decide +kernel) rfl ?_
      refine pe_iload_n (j := 1) (by decide +kernel) rfl ?_
      refine pw_shr (by decide +kernel) (fun z2 => ?_)
      refine pe_iconstv (n := 1) (v := 1) (by decide +kernel) (by decide +kernel) ?_
      refine pz_and1 (by decide +kernel) (fun z3 hz3 => ?_)
      refine pz_if_eq (off := 7) (t := 12) (by decide +kernel) (by decide) rfl rfl (fun h4 => ?_) (fun h4 => ?_)
      · skip
        refine pe_iconstv (n := 0) (v := 0) (by decide +kernel) (by decide +kernel) ?_
        refine pe_iret (by decide +kernel) rfl rfl ⟨rfl, rfl, ?_⟩
        show pmE pg X pg_tyl pg_cl (d + 7) 135 66 [.ref 55, .int 2, .int x2, .int x3, .int x4] [.int 0] (cd f A R wr) _
        refine pz_if_ne (off := 41) (t := 107) (by decide +kernel) (by decide) rfl kz_0 (fun h5 => by omega) (fun h5 => ?_)
        refine pe_aload_n (j := 0) (by decide +kernel) rfl ?_
        refine pe_get (j := 12) (ci := 6) (n := 0) (by decide +kernel) (by decide +kernel) cd_o55 rfl ?_
        refine pe_topV (v := .ref 33) (((hH 2 (by decide))).trans (hR2)) ?_
        refine pe_iload_n (j := 3) (by decide +kernel) rfl ?_
        refine pe_iload (j := 4) (by decide +kernel) rfl ?_
        refine pz_callV (j := 59) (mj := 77) (by decide +kernel) (cll_V (args := [.int x4, .int x3]) (n := 2) (by decide +kernel) rfl rfl cd_o33 (by decide +kernel) (Nat.le_of_ble_eq_true rfl) (Nat.le_of_ble_eq_true rfl)) (CM_77 hX hI hv (((hH 0 (by decide))).trans (hR0)) (by omega) (by omega)) (fun q6a q6b q6c q6d hqq6 => ?_)
        obtain ⟨rq6, eq6, kq6⟩ := hqq6
        cases eq6
        refine ⟨rfl, rfl, ?_⟩
        show pmE pg X pg_tyl pg_cl (d + 7) 135 79 [.ref 55, .int 2, .int x2, .int x3, .int x4] [.int rq6] (cd f A R wr) _
        refine pe_aload_n (j := 0) (by decide +kernel) rfl ?_
        refine pe_get (j := 53) (ci := 6) (n := 2) (by decide +kernel) (by decide +kernel) cd_o55 rfl ?_
        have lw8 := zi_lo rq6
        have uw8 := zi_hi rq6
        have lw9 := zi_lo (f 882)
        have uw9 := zi_hi (f 882)
        refine pz_icmp_lt (off := 24) (t := 107) (by decide +kernel) (by decide) rfl rfl rfl (fun h7 => ?_) (fun h7 => ?_)
        · skip
          refine pz_iinc (j := 4) (n := 1) (by decide +kernel) rfl rfl (by decide +kernel) (by omega) (by omega) (fun z10 hz10 => ?_)
          show pmE pg X pg_tyl pg_cl (d + 7) 135 110 [.ref 55, .int 2, .int x2, .int x3, .int z10] [] (cd f A R wr) _
          refine pe_goto (off := (-65)) (t := 45) (by decide +kernel) (by decide) rfl ?_
          exact ih f A R z10 hI (fun k n886 n887 => (hG k n886 n887)) (fun k n66 n67 => (hF k n66 n67)) (fun k n5 => (hH k n5)) (by omega) (by omega)
        · skip
          refine pe_aload_n (j := 0) (by decide +kernel) rfl ?_
          refine pe_get (j := 22) (ci := 6) (n := 4) (by decide +kernel) (by decide +kernel) cd_o55 rfl ?_
          refine pe_iload_n (j := 1) (by decide +kernel) rfl ?_
          refine pe_iload (j := 4) (by decide +kernel) rfl ?_
          refine cz_st66 (by decide +kernel) hI kz_2 (by omega) (by omega) (by simp only [CT]; omega) (fun A11 eA11 hIA11 => ?_)
          refine pe_aload_n (j := 0) (by decide +kernel) rfl ?_
          refine pe_iload_n (j := 1) (by decide +kernel) rfl ?_
          refine pe_iconstv (n := 1) (v := 1) (by decide +kernel) (by decide +kernel) ?_
          refine pe_iadd (by decide +kernel) ?_
          refine pe_top (v := 3) (by decide +kernel) ?_
          refine pe_iload_n (j := 2) (by decide +kernel) rfl ?_
          refine pe_iconstv (n := 1) (v := 1) (by decide +kernel) (by decide +kernel) ?_
          refine pe_iload (j := 4) (by decide +kernel) rfl ?_
          refine pz_shl1 (by decide +kernel) rfl (by omega) (by omega) (fun z13 hz13 => ?_)
          refine pw_or (by decide +kernel) (fun z14 => ?_)
          refine pz_callS (j := 62) (mj := 135) (by decide +kernel) (by decide +kernel) rfl (CM_135_3 hX hIA11 hv (((hH 0 (by decide))).trans (hR0)) (((hH 2 (by decide))).trans (hR2))) (fun q15a q15b q15c q15d hqq15 => ?_)
          obtain ⟨f16, A17, R18, eq15, hIq15, hGq15, hFq15, hHq15, kq15⟩ := hqq15
          cases eq15
          refine ⟨rfl, rfl, ?_⟩
          show pmE pg X pg_tyl pg_cl (d + 7) 135 107 [.ref 55, .int 2, .int x2, .int x3, .int x4] [] (cd f16 A17 R18 wr) _
          refine pz_iinc (j := 4) (n := 1) (by decide +kernel) rfl rfl (by decide +kernel) (by omega) (by omega) (fun z19 hz19 => ?_)
          show pmE pg X pg_tyl pg_cl (d + 7) 135 110 [.ref 55, .int 2, .int x2, .int x3, .int z19] [] (cd f16 A17 R18 wr) _
          refine pe_goto (off := (-65)) (t := 45) (by decide +kernel) (by decide) rfl ?_
          exact ih f16 A17 R18 z19 hIq15 (fun k n886 n887 => ((hGq15 k n886 n887)).trans ((hG k n886 n887))) (fun k n66 n67 => ((hFq15 k n66 n67)).trans ((upa_fr eA11 n66).trans ((hF k n66 n67)))) (fun k n5 => ((hHq15 k n5)).trans ((hH k n5))) (by omega) (by omega)
      · skip
        refine pe_iconstv (n := 1) (v := 1) (by decide +kernel) (by decide +kernel) ?_
        refine pe_goto (off := 4) (t := 13) (by decide +kernel) (by decide) rfl ?_
        refine pe_iret (by decide +kernel) rfl rfl ⟨rfl, rfl, ?_⟩
        show pmE pg X pg_tyl pg_cl (d + 7) 135 66 [.ref 55, .int 2, .int x2, .int x3, .int x4] [.int 1] (cd f A R wr) _
        refine pz_if_ne (off := 41) (t := 107) (by decide +kernel) (by decide) rfl kz_1 (fun h20 => ?_) (fun h20 => by omega)
        refine pz_iinc (j := 4) (n := 1) (by decide +kernel) rfl rfl (by decide +kernel) (by omega) (by omega) (fun z21 hz21 => ?_)
        show pmE pg X pg_tyl pg_cl (d + 7) 135 110 [.ref 55, .int 2, .int x2, .int x3, .int z21] [] (cd f A R wr) _
        refine pe_goto (off := (-65)) (t := 45) (by decide +kernel) (by decide) rfl ?_
        exact ih f A R z21 hI (fun k n886 n887 => (hG k n886 n887)) (fun k n66 n67 => (hF k n66 n67)) (fun k n5 => (hH k n5)) (by omega) (by omega)
set_option maxRecDepth 100000 in
set_option maxHeartbeats 8000000 in
theorem CM_135_4 {X : pm_X} {d : Nat} {wr : pm_W} {f : Nat → Int32} {A : Nat → List Int32} {R : Nat → Value} {x2 : Int32} {v : Nat} (hX : XO X) (hI : CI f A R) (hv : VV v) (hR0 : R 0 = .ref v) (hR2 : R 2 = .ref 33) : pmE pg X pg_tyl pg_cl (d + 7) 135 0 (pm_ent (pm_max pg 135) [.ref 55, .int 2, .int x2]) [] (cd f A R wr) (fun q => ∃ (f' : Nat → Int32) (A' : Nat → List Int32) (R' : Nat → Value), q = (none, cd f' A' R' wr, 0, 0) ∧ CI f' A' R' ∧ (∀ k : Nat, k ≠ 886 → k ≠ 887 → f' k = f k) ∧ (∀ k : Nat, k ≠ 66 → k ≠ 67 → A' k = A k) ∧ (∀ k : Nat, k ≠ 5 → R' k = R k) ∧ ((True))) := by
  have bv := VV_b hv
  show pmE pg X pg_tyl pg_cl (d + 7) 135 0 [.ref 55, .int 2, .int x2, pm_dead, pm_dead] [] (cd f A R wr) _
  refine pe_aload_n (j := 0) (by decide +kernel) rfl ?_
  refine pe_get (j := 22) (ci := 6) (n := 4) (by decide +kernel) (by decide +kernel) cd_o55 rfl ?_
  refine pe_iload_n (j := 1) (by decide +kernel) rfl ?_
  refine pe_iconstv (n := 1) (v := 1) (by decide +kernel) (by decide +kernel) ?_
  refine pe_isub (by decide +kernel) ?_
  refine pe_top (v := 1) (by decide +kernel) ?_
  refine pz_iald (by decide +kernel) cd_a66 (cl_66 hI) kz_1 (by omega) (by omega) (fun v2 ev2 => ?_)
  have rv2 : 0 ≤ v2.toInt ∧ v2.toInt ≤ 8 := ct_66 hI ev2
  refine pe_istore_n (j := 3) (ls' := [.ref 55, .int 2, .int x2, .int v2, pm_dead]) (by decide +kernel) (Nat.le_of_ble_eq_true rfl) rfl ?_
  refine pe_aload_n (j := 0) (by decide +kernel) rfl ?_
  refine pe_get (j := 12) (ci := 6) (n := 0) (by decide +kernel) (by decide +kernel) cd_o55 rfl ?_
  refine pe_topV (v := .ref 33) (hR2) ?_
  refine pe_iload_n (j := 3) (by decide +kernel) rfl ?_
  refine pe_aload_n (j := 0) (by decide +kernel) rfl ?_
  refine pe_get (j := 22) (ci := 6) (n := 4) (by decide +kernel) (by decide +kernel) cd_o55 rfl ?_
  refine pe_iconstv (n := 0) (v := 0) (by decide +kernel) (by decide +kernel) ?_
  refine pz_iald (by decide +kernel) cd_a66 (cl_66 hI) kz_0 (by omega) (by omega) (fun v3 ev3 => ?_)
  have rv3 : 0 ≤ v3.toInt ∧ v3.toInt ≤ 8 := ct_66 hI ev3
  refine pz_callV (j := 59) (mj := 77) (by decide +kernel) (cll_V (args := [.int v3, .int v2]) (n := 2) (by decide +kernel) rfl rfl cd_o33 (by decide +kernel) (Nat.le_of_ble_eq_true rfl) (Nat.le_of_ble_eq_true rfl)) (CM_77 hX hI hv (hR0) (by omega) (by omega)) (fun q4a q4b q4c q4d hqq4 => ?_)
  obtain ⟨rq4, eq4, kq4⟩ := hqq4
  cases eq4
  refine ⟨rfl, rfl, ?_⟩
  show pmE pg X pg_tyl pg_cl (d + 7) 135 23 [.ref 55, .int 2, .int x2, .int v2, pm_dead] [.int rq4] (cd f A R wr) _
  refine pe_aload_n (j := 0) (by decide +kernel) rfl ?_
  refine pe_get (j := 53) (ci := 6) (n := 2) (by decide +kernel) (by decide +kernel) cd_o55 rfl ?_
  have lw6 := zi_lo rq4
  have uw6 := zi_hi rq4
  have lw7 := zi_lo (f 882)
  have uw7 := zi_hi (f 882)
  refine pz_icmp_lt (off := 8) (t := 35) (by decide +kernel) (by decide) rfl rfl rfl (fun h5 => ?_) (fun h5 => ?_)
  · skip
    refine pe_iload_n (j := 1) (by decide +kernel) rfl ?_
    refine pe_bipushv (n := 6) (v := 6) (by decide +kernel) (by decide +kernel) ?_
    refine pz_icmp_lt (off := 4) (t := 42) (by decide +kernel) (by decide) rfl kz_2 kz_6 (fun h8 => ?_) (fun h8 => by omega)
    refine pe_iconstv (n := 0) (v := 0) (by decide +kernel) (by decide +kernel) ?_
    refine pe_istore (j := 4) (ls' := [.ref 55, .int 2, .int x2, .int v2, .int 0]) (by decide +kernel) (Nat.le_of_ble_eq_true rfl) rfl ?_
    refine CL_135_4_45 hX hv (hR0) (hR2) (by omega) (fun f9 A10 R11 y12 hIy13 hGf9 hFA10 hHR11 gy12 => ?_) 10 f A R 0 hI (fun k _ _ => rfl) (fun k _ _ => rfl) (fun k _ => rfl) (by decide +kernel) (by decide +kernel)
    exact pe_vret (by decide +kernel) rfl ⟨f9, A10, R11, rfl, hIy13, (fun k n886 n887 => (hGf9 k n886 n887)), (fun k n66 n67 => (hFA10 k n66 n67)), (fun k n5 => (hHR11 k n5)), trivial⟩
  · skip
    refine pe_aload_n (j := 0) (by decide +kernel) rfl ?_
    refine pe_iload_n (j := 1) (by decide +kernel) rfl ?_
    refine pz_callV (j := 66) (mj := 136) (by decide +kernel) (cll_V (args := [.int 2]) (n := 1) (by decide +kernel) rfl rfl cd_o55 (by decide +kernel) (Nat.le_of_ble_eq_true rfl) (Nat.le_of_ble_eq_true rfl)) (CM_136 hX hI hv (hR0) (hR2) (by decide +kernel)) (fun q14a q14b q14c q14d hqq14 => ?_)
    obtain ⟨f15, A16, R17, eq14, hIq14, hGq14, hFq14, hHq14, kq14⟩ := hqq14
    cases eq14
    refine ⟨rfl, rfl, ?_⟩
    show pmE pg X pg_tyl pg_cl (d + 7) 135 35 [.ref 55, .int 2, .int x2, .int v2, pm_dead] [] (cd f15 A16 R17 wr) _
    refine pe_iload_n (j := 1) (by decide +kernel) rfl ?_
    refine pe_bipushv (n := 6) (v := 6) (by decide +kernel) (by decide +kernel) ?_
    refine pz_icmp_lt (off := 4) (t := 42) (by decide +kernel) (by decide) rfl kz_2 kz_6 (fun h18 => ?_) (fun h18 => by omega)
    refine pe_iconstv (n := 0) (v := 0) (by decide +kernel) (by decide +kernel) ?_
    refine pe_istore (j := 4) (ls' := [.ref 55, .int 2, .int x2, .int v2, .int 0]) (by decide +kernel) (Nat.le_of_ble_eq_true rfl) rfl ?_
    refine CL_135_4_45 hX hv (((hHq14 0 (by decide))).trans (hR0)) (((hHq14 2 (by decide))).trans (hR2)) (by omega) (fun f19 A20 R21 y22 hIy23 hGf19 hFA20 hHR21 gy22 => ?_) 10 f15 A16 R17 0 hIq14 (fun k _ _ => rfl) (fun k _ _ => rfl) (fun k _ => rfl) (by decide +kernel) (by decide +kernel)
    exact pe_vret (by decide +kernel) rfl ⟨f19, A20, R21, rfl, hIy23, (fun k n886 n887 => ((hGf19 k n886 n887)).trans ((hGq14 k n886 n887))), (fun k n66 n67 => ((hFA20 k n66 n67)).trans ((hFq14 k n67))), (fun k n5 => ((hHR21 k n5)).trans ((hHq14 k n5))), trivial⟩
set_option maxRecDepth 100000 in
set_option maxHeartbeats 8000000 in
theorem CM_134 {X : pm_X} {d : Nat} {wr : pm_W} {f : Nat → Int32} {A : Nat → List Int32} {R : Nat → Value} {x2 x3 : Int32} {v : Nat} (hX : XO X) (hI : CI f A R) (hv : VV v) (hR0 : R 0 = .ref v) (gx2 : (0 ≤ x2.toInt ∧ x2.toInt ≤ 6)) : pmE pg X pg_tyl pg_cl (d + 8) 134 0 (pm_ent (pm_max pg 134) [.ref 55, .ref 33, .int x2, .int x3]) [] (cd f A R wr) (fun q => ∃ (f' : Nat → Int32) (A' : Nat → List Int32) (R' : Nat → Value) (r : Int32), q = (some (.int r), cd f' A' R' wr, 0, 0) ∧ CI f' A' R' ∧ (∀ k : Nat, k ≠ 881 → k ≠ 882 → k ≠ 886 → k ≠ 887 → f' k = f k) ∧ (∀ k : Nat, k ≠ 66 → k ≠ 67 → A' k = A k) ∧ (∀ k : Nat, k ≠ 2 → k ≠ 5 → R' k = R k) ∧ ((r = 0 ∧ True) ∨ (r = 1 ∧ True))) := by
  have bv := VV_b hv
  show pmE pg X pg_tyl pg_cl (d + 8) 134 0 [.ref 55, .ref 33, .int x2, .int x3] [] (cd f A R wr) _
  refine pe_aload_n (j := 0) (by decide +kernel) rfl ?_
  refine pe_aload_n (j := 1) (by decide +kernel) rfl ?_
  refine cz_putR2 (jj := 12) (ty := (.object "RingVillage$State")) (by decide +kernel) (by decide +kernel) hI pm_fit_obj ⟨_, rfl⟩ (fun R1 eR1 hIR1 => ?_)
  refine pe_aload_n (j := 0) (by decide +kernel) rfl ?_
  refine pe_iload_n (j := 3) (by decide +kernel) rfl ?_
  refine cz_put881 (jj := 45) (by decide +kernel) (by decide +kernel) hIR1 (fun f2 ef2 hIf2 => ?_)
  refine pe_aload_n (j := 0) (by decide +kernel) rfl ?_
  refine pe_aload_n (j := 1) (by decide +kernel) rfl ?_
  refine pe_get (j := 28) (ci := 7) (n := 0) (by decide +kernel) (by decide +kernel) cd_o33 rfl ?_
  refine pe_topV (v := .ref v) ((upr_fr eR1 (by decide)).trans (hR0)) ?_
  refine pe_iload_n (j := 2) (by decide +kernel) rfl ?_
  refine pe_iconstv (n := 2) (v := 2) (by decide +kernel) (by decide +kernel) ?_
  refine pi_V (j := 49) (mj := 65) (by decide +kernel) (cll_V (args := [.int 2, .int x2]) (n := 2) (by decide +kernel) rfl rfl (cv_o hv) (by decide +kernel) (Nat.le_of_ble_eq_true rfl) (Nat.le_of_ble_eq_true rfl)) ?_
  show pmE pg X pg_tyl pg_cl (d + 7) 65 0 [.ref v, .int x2, .int 2] [] (cd f2 A R1 wr) _
  refine pe_aload_n (j := 0) (by decide +kernel) rfl ?_
  refine pe_get (j := 25) (ci := 9) (n := 6) (by decide +kernel) (by decide +kernel) (cv_o hv) rfl ?_
  refine pe_iload_n (j := 1) (by decide +kernel) rfl ?_
  refine pe_iconstv (n := 4) (v := 4) (by decide +kernel) (by decide +kernel) ?_
  refine pz_mul (by decide +kernel) rfl kz_4 (by omega) (by omega) (fun z3 hz3 => ?_)
  refine pe_iload_n (j := 2) (by decide +kernel) rfl ?_
  refine pz_add (by decide +kernel) hz3 kz_2 (by omega) (by omega) (fun z4 hz4 => ?_)
  clear hz3
  refine pz_iald (by decide +kernel) (cv_a4 hv) (cv_l4 hv hIf2) hz4 (by omega) (by omega) (fun v5 ev5 => ?_)
  clear hz4
  refine pe_iret (by decide +kernel) rfl rfl ⟨rfl, rfl, ?_⟩
  show pmE pg X pg_tyl pg_cl (d + 8) 134 20 [.ref 55, .ref 33, .int x2, .int x3] [.int v5, .ref 55] (cd f2 A R1 wr) _
  refine cz_put882 (jj := 53) (by decide +kernel) (by decide +kernel) hIf2 (fun f6 ef6 hIf6 => ?_)
  refine pe_aload_n (j := 0) (by decide +kernel) rfl ?_
  refine pe_get (j := 22) (ci := 6) (n := 4) (by decide +kernel) (by decide +kernel) cd_o55 rfl ?_
  refine pe_iconstv (n := 0) (v := 0) (by decide +kernel) (by decide +kernel) ?_
  refine pe_aload_n (j := 1) (by decide +kernel) rfl ?_
  refine pe_get (j := 28) (ci := 7) (n := 0) (by decide +kernel) (by decide +kernel) cd_o33 rfl ?_
  refine pe_topV (v := .ref v) ((upr_fr eR1 (by decide)).trans (hR0)) ?_
  refine pe_iload_n (j := 2) (by decide +kernel) rfl ?_
  refine pe_iconstv (n := 0) (v := 0) (by decide +kernel) (by decide +kernel) ?_
  refine pi_V (j := 49) (mj := 65) (by decide +kernel) (cll_V (args := [.int 0, .int x2]) (n := 2) (by decide +kernel) rfl rfl (cv_o hv) (by decide +kernel) (Nat.le_of_ble_eq_true rfl) (Nat.le_of_ble_eq_true rfl)) ?_
  show pmE pg X pg_tyl pg_cl (d + 7) 65 0 [.ref v, .int x2, .int 0] [] (cd f6 A R1 wr) _
  refine pe_aload_n (j := 0) (by decide +kernel) rfl ?_
  refine pe_get (j := 25) (ci := 9) (n := 6) (by decide +kernel) (by decide +kernel) (cv_o hv) rfl ?_
  refine pe_iload_n (j := 1) (by decide +kernel) rfl ?_
  refine pe_iconstv (n := 4) (v := 4) (by decide +kernel) (by decide +kernel) ?_
  refine pz_mul (by decide +kernel) rfl kz_4 (by omega) (by omega) (fun z7 hz7 => ?_)
  refine pe_iload_n (j := 2) (by decide +kernel) rfl ?_
  refine pz_add (by decide +kernel) hz7 kz_0 (by omega) (by omega) (fun z8 hz8 => ?_)
  clear hz7
  refine pz_iald (by decide +kernel) (cv_a4 hv) (cv_l4 hv hIf6) hz8 (by omega) (by omega) (fun v9 ev9 => ?_)
  have rv9 : 0 ≤ v9.toInt ∧ v9.toInt ≤ 8 := ct0_m (cv_t4 hv hIf6 ev9) (by omega)
  clear hz8
  refine pe_iret (by decide +kernel) rfl rfl ⟨rfl, rfl, ?_⟩
  show pmE pg X pg_tyl pg_cl (d + 8) 134 37 [.ref 55, .ref 33, .int x2, .int x3] [.int v9, .int 0, .ref 66] (cd f6 A R1 wr) _
  refine cz_st66 (by decide +kernel) hIf6 kz_0 (by omega) (by omega) (by simp only [CT]; omega) (fun A10 eA10 hIA10 => ?_)
  refine pe_aload_n (j := 0) (by decide +kernel) rfl ?_
  refine pe_get (j := 22) (ci := 6) (n := 4) (by decide +kernel) (by decide +kernel) cd_o55 rfl ?_
  refine pe_iconstv (n := 1) (v := 1) (by decide +kernel) (by decide +kernel) ?_
  refine pe_aload_n (j := 1) (by decide +kernel) rfl ?_
  refine pe_get (j := 28) (ci := 7) (n := 0) (by decide +kernel) (by decide +kernel) cd_o33 rfl ?_
  refine pe_topV (v := .ref v) ((upr_fr eR1 (by decide)).trans (hR0)) ?_
  refine pe_iload_n (j := 2) (by decide +kernel) rfl ?_
  refine pe_iconstv (n := 1) (v := 1) (by decide +kernel) (by decide +kernel) ?_
  refine pi_V (j := 49) (mj := 65) (by decide +kernel) (cll_V (args := [.int 1, .int x2]) (n := 2) (by decide +kernel) rfl rfl (cv_o hv) (by decide +kernel) (Nat.le_of_ble_eq_true rfl) (Nat.le_of_ble_eq_true rfl)) ?_
  show pmE pg X pg_tyl pg_cl (d + 7) 65 0 [.ref v, .int x2, .int 1] [] (cd f6 A10 R1 wr) _
  refine pe_aload_n (j := 0) (by decide +kernel) rfl ?_
  refine pe_get (j := 25) (ci := 9) (n := 6) (by decide +kernel) (by decide +kernel) (cv_o hv) rfl ?_
  refine pe_iload_n (j := 1) (by decide +kernel) rfl ?_
  refine pe_iconstv (n := 4) (v := 4) (by decide +kernel) (by decide +kernel) ?_
  refine pz_mul (by decide +kernel) rfl kz_4 (by omega) (by omega) (fun z11 hz11 => ?_)
  refine pe_iload_n (j := 2) (by decide +kernel) rfl ?_
  refine pz_add (by decide +kernel) hz11 kz_1 (by omega) (by omega) (fun z12 hz12 => ?_)
  clear hz11
  refine pz_iald (by decide +kernel) (cv_a4 hv) (cv_l4 hv hIA10) hz12 (by omega) (by omega) (fun v13 ev13 => ?_)
  have rv13 : 0 ≤ v13.toInt ∧ v13.toInt ≤ 8 := ct0_m (cv_t4 hv hIA10 ev13) (by omega)
  rw [show A10 (v + 4) = A (v + 4) from upa_fr eA10 (by omega)] at ev13
  clear hz12
  refine pe_iret (by decide +kernel) rfl rfl ⟨rfl, rfl, ?_⟩
  show pmE pg X pg_tyl pg_cl (d + 8) 134 52 [.ref 55, .ref 33, .int x2, .int x3] [.int v13, .int 1, .ref 66] (cd f6 A10 R1 wr) _
  refine cz_st66 (by decide +kernel) hIA10 kz_1 (by omega) (by omega) (by simp only [CT]; omega) (fun A14 eA14 hIA14 => ?_)
  refine pe_aload_n (j := 0) (by decide +kernel) rfl ?_
  refine pe_iconstv (n := 0) (v := 0) (by decide +kernel) (by decide +kernel) ?_
  refine cz_put886 (jj := 56) (by decide +kernel) (by decide +kernel) hIA14 (by decide +kernel) (by decide +kernel) (fun f15 ef15 hIf15 => ?_)
  refine pe_aload_n (j := 1) (by decide +kernel) rfl ?_
  refine pe_aload_n (j := 0) (by decide +kernel) rfl ?_
  refine pe_get (j := 22) (ci := 6) (n := 4) (by decide +kernel) (by decide +kernel) cd_o55 rfl ?_
  refine pe_iconstv (n := 0) (v := 0) (by decide +kernel) (by decide +kernel) ?_
  refine pz_iald (by decide +kernel) cd_a66 (cl_66 hIf15) kz_0 (by omega) (by omega) (fun v16 ev16 => ?_)
  have rv16 : 0 ≤ v16.toInt ∧ v16.toInt ≤ 8 := ct_66 hIf15 ev16
  refine pe_aload_n (j := 0) (by decide +kernel) rfl ?_
  refine pe_get (j := 22) (ci := 6) (n := 4) (by decide +kernel) (by decide +kernel) cd_o55 rfl ?_
  refine pe_iconstv (n := 1) (v := 1) (by decide +kernel) (by decide +kernel) ?_
  refine pz_iald (by decide +kernel) cd_a66 (cl_66 hIf15) kz_1 (by omega) (by omega) (fun v17 ev17 => ?_)
  have rv17 : 0 ≤ v17.toInt ∧ v17.toInt ≤ 8 := ct_66 hIf15 ev17
  refine pz_callV (j := 59) (mj := 77) (by decide +kernel) (cll_V (args := [.int v17, .int v16]) (n := 2) (by decide +kernel) rfl rfl cd_o33 (by decide +kernel) (Nat.le_of_ble_eq_true rfl) (Nat.le_of_ble_eq_true rfl)) (CM_77 hX hIf15 hv ((upr_fr eR1 (by decide)).trans (hR0)) (by omega) (by omega)) (fun q18a q18b q18c q18d hqq18 => ?_)
  obtain ⟨rq18, eq18, kq18⟩ := hqq18
  cases eq18
  refine ⟨rfl, rfl, ?_⟩
  show pmE pg X pg_tyl pg_cl (d + 8) 134 74 [.ref 55, .ref 33, .int x2, .int x3] [.int rq18] (cd f15 A14 R1 wr) _
  refine pe_aload_n (j := 0) (by decide +kernel) rfl ?_
  refine pe_get (j := 53) (ci := 6) (n := 2) (by decide +kernel) (by decide +kernel) cd_o55 rfl ?_
  refine pe_top (v := v5) ((upf_fr ef15 (by decide)).trans (upf_at ef6)) ?_
  have lw20 := zi_lo rq18
  have uw20 := zi_hi rq18
  have lw21 := zi_lo v5
  have uw21 := zi_hi v5
  refine pz_icmp_lt (off := 25) (t := 103) (by decide +kernel) (by decide) rfl rfl rfl (fun h19 => ?_) (fun h19 => ?_)
  · skip
    refine pe_aload_n (j := 0) (by decide +kernel) rfl ?_
    refine pe_get (j := 56) (ci := 6) (n := 6) (by decide +kernel) (by decide +kernel) cd_o55 rfl ?_
    refine pe_top (v := 0) (upf_at ef15) ?_
    refine pz_if_le (off := 7) (t := 114) (by decide +kernel) (by decide) rfl kz_0 (fun h22 => ?_) (fun h22 => by omega)
    refine pe_iconstv (n := 0) (v := 0) (by decide +kernel) (by decide +kernel) ?_
    exact pe_iret (by decide +kernel) rfl rfl ⟨f15, A14, R1, 0, rfl, hIf15, (fun k n881 n882 n886 n887 => (upf_fr ef15 n886).trans ((upf_fr ef6 n882).trans (upf_fr ef2 n881))), (fun k n66 n67 => (upa_fr eA14 n66).trans (upa_fr eA10 n66)), (fun k n2 n5 => upr_fr eR1 n2), Or.inl ⟨rfl, trivial⟩⟩
  · skip
    refine pe_aload_n (j := 0) (by decide +kernel) rfl ?_
    refine pe_iconstv (n := 2) (v := 2) (by decide +kernel) (by decide +kernel) ?_
    refine pe_iconstv (n := 1) (v := 1) (by decide +kernel) (by decide +kernel) ?_
    refine pe_aload_n (j := 0) (by decide +kernel) rfl ?_
    refine pe_get (j := 22) (ci := 6) (n := 4) (by decide +kernel) (by decide +kernel) cd_o55 rfl ?_
    refine pe_iconstv (n := 0) (v := 0) (by decide +kernel) (by decide +kernel) ?_
    refine pz_iald (by decide +kernel) cd_a66 (cl_66 hIf15) kz_0 (by omega) (by omega) (fun v23 ev23 => ?_)
    rw [ev23.trans ev16.symm]
    clear ev23 v23
    refine pz_shl1 (by decide +kernel) rfl (by omega) (by omega) (fun z24 hz24 => ?_)
    refine pe_iconstv (n := 1) (v := 1) (by decide +kernel) (by decide +kernel) ?_
    refine pe_aload_n (j := 0) (by decide +kernel) rfl ?_
    refine pe_get (j := 22) (ci := 6) (n := 4) (by decide +kernel) (by decide +kernel) cd_o55 rfl ?_
    refine pe_iconstv (n := 1) (v := 1) (by decide +kernel) (by decide +kernel) ?_
    refine pz_iald (by decide +kernel) cd_a66 (cl_66 hIf15) kz_1 (by omega) (by omega) (fun v25 ev25 => ?_)
    rw [ev25.trans ev17.symm]
    clear ev25 v25
    refine pz_shl1 (by decide +kernel) rfl (by omega) (by omega) (fun z26 hz26 => ?_)
    refine pz_or9 (by decide +kernel) rfl rfl (by omega) (by omega) (by omega) (by omega) (fun z27 hz27 => ?_)
    refine pz_callS (j := 62) (mj := 135) (by decide +kernel) (by decide +kernel) rfl (CM_135_4 hX hIf15 hv ((upr_fr eR1 (by decide)).trans (hR0)) (upr_at eR1)) (fun q28a q28b q28c q28d hqq28 => ?_)
    obtain ⟨f29, A30, R31, eq28, hIq28, hGq28, hFq28, hHq28, kq28⟩ := hqq28
    cases eq28
    refine ⟨rfl, rfl, ?_⟩
    show pmE pg X pg_tyl pg_cl (d + 8) 134 103 [.ref 55, .ref 33, .int x2, .int x3] [] (cd f29 A30 R31 wr) _
    refine pe_aload_n (j := 0) (by decide +kernel) rfl ?_
    refine pe_get (j := 56) (ci := 6) (n := 6) (by decide +kernel) (by decide +kernel) cd_o55 rfl ?_
    have hr_f29_886 := cf_886 hIq28
    refine pz_if_le (off := 7) (t := 114) (by decide +kernel) (by decide) rfl rfl (fun h32 => ?_) (fun h32 => ?_)
    · skip
      refine pe_iconstv (n := 0) (v := 0) (by decide +kernel) (by decide +kernel) ?_
      exact pe_iret (by decide +kernel) rfl rfl ⟨f29, A30, R31, 0, rfl, hIq28, (fun k n881 n882 n886 n887 => ((hGq28 k n886 n887)).trans ((upf_fr ef15 n886).trans ((upf_fr ef6 n882).trans (upf_fr ef2 n881)))), (fun k n66 n67 => ((hFq28 k n66 n67)).trans ((upa_fr eA14 n66).trans (upa_fr eA10 n66))), (fun k n2 n5 => ((hHq28 k n5)).trans (upr_fr eR1 n2)), Or.inl ⟨rfl, trivial⟩⟩
    · skip
      refine pe_iconstv (n := 1) (v := 1) (by decide +kernel) (by decide +kernel) ?_
      refine pe_goto (off := 4) (t := 115) (by decide +kernel) (by decide) rfl ?_
      exact pe_iret (by decide +kernel) rfl rfl ⟨f29, A30, R31, 1, rfl, hIq28, (fun k n881 n882 n886 n887 => ((hGq28 k n886 n887)).trans ((upf_fr ef15 n886).trans ((upf_fr ef6 n882).trans (upf_fr ef2 n881)))), (fun k n66 n67 => ((hFq28 k n66 n67)).trans ((upa_fr eA14 n66).trans (upa_fr eA10 n66))), (fun k n2 n5 => ((hHq28 k n5)).trans (upr_fr eR1 n2)), Or.inr (⟨rfl, trivial⟩)⟩
end
section
set_option maxRecDepth 100000 in
set_option maxHeartbeats 8000000 in
theorem CM_133 {X : pm_X} {d : Nat} {wr : pm_W} {f : Nat → Int32} {A : Nat → List Int32} {R : Nat → Value} {x2 x3 : Int32} {v : Nat} (hX : XO X) (hI : CI f A R) (hv : VV v) (hR0 : R 0 = .ref v) (gx2 : (0 ≤ x2.toInt ∧ x2.toInt ≤ 6)) : pmE pg X pg_tyl pg_cl (d + 9) 133 0 (pm_ent (pm_max pg 133) [.ref 55, .ref 33, .int x2, .int x3]) [] (cd f A R wr) (fun q => ∃ (f' : Nat → Int32) (A' : Nat → List Int32) (R' : Nat → Value) (r : Int32), q = (some (.int r), cd f' A' R' wr, 0, 0) ∧ CI f' A' R' ∧ (∀ k : Nat, k ≠ 881 → k ≠ 882 → k ≠ 886 → k ≠ 887 → f' k = f k) ∧ (∀ k : Nat, k ≠ 65 → k ≠ 66 → k ≠ 67 → A' k = A k) ∧ (∀ k : Nat, k ≠ 2 → k ≠ 5 → R' k = R k) ∧ ((r = 0 ∧ True) ∨ (r = 1 ∧ True))) := by
  have bv := VV_b hv
  show pmE pg X pg_tyl pg_cl (d + 9) 133 0 [.ref 55, .ref 33, .int x2, .int x3] [] (cd f A R wr) _
  refine pe_aload_n (j := 1) (by decide +kernel) rfl ?_
  refine pe_get (j := 28) (ci := 7) (n := 0) (by decide +kernel) (by decide +kernel) cd_o33 rfl ?_
  refine pe_topV (v := .ref v) (hR0) ?_
  refine pe_get (j := 32) (ci := 9) (n := 4) (by decide +kernel) (by decide +kernel) (cv_o hv) rfl ?_
  refine pe_iconstv (n := 0) (v := 0) (by decide +kernel) (by decide +kernel) ?_
  refine pe_aload_n (j := 0) (by decide +kernel) rfl ?_
  refine pe_get (j := 18) (ci := 6) (n := 3) (by decide +kernel) (by decide +kernel) cd_o55 rfl ?_
  refine pe_iconstv (n := 0) (v := 0) (by decide +kernel) (by decide +kernel) ?_
  refine pe_bipushv (n := 9) (v := 9) (by decide +kernel) (by decide +kernel) ?_
  have hl1 := kz_9
  have hl2 := kz_0
  have hl3 := kz_0
  refine cz_copy (j := 35) (a := 0) (b := 0) (c := 9) (by decide +kernel) (by decide +kernel) (Nat.le_of_ble_eq_true rfl) (cv_a2 hv) cd_a65 (by decide +kernel) (fun _ => cd_s65) hI (cv_l2 hv hI) (cl_65 hI) kz_0 kz_0 kz_9 (by omega) (by omega) (by omega) (by omega) (by omega) (Or.inl rfl) (ct_no (by decide +kernel)) (fun A4 eA4 hIA4 => ?_)
  refine pe_aload_n (j := 0) (by decide +kernel) rfl ?_
  refine pe_aload_n (j := 1) (by decide +kernel) rfl ?_
  refine pe_iload_n (j := 2) (by decide +kernel) rfl ?_
  refine pe_iload_n (j := 3) (by decide +kernel) rfl ?_
  refine pz_callV (j := 41) (mj := 134) (by decide +kernel) (cll_V (args := [.int x3, .int x2, .ref 33]) (n := 3) (by decide +kernel) rfl rfl cd_o55 (by decide +kernel) (Nat.le_of_ble_eq_true rfl) (Nat.le_of_ble_eq_true rfl)) (CM_134 hX hIA4 hv (hR0) (by omega)) (fun q5a q5b q5c q5d hqq5 => ?_)
  obtain ⟨f6, A7, R8, rq5, eq5, hIq5, hGq5, hFq5, hHq5, kq5⟩ := hqq5
  cases eq5
  refine ⟨rfl, rfl, ?_⟩
  rcases kq5 with kq5 | kq5
  · skip
    obtain ⟨erq5, kq5⟩ := kq5
    subst erq5
    show pmE pg X pg_tyl pg_cl (d + 9) 133 25 [.ref 55, .ref 33, .int x2, .int x3] [.int 0] (cd f6 A7 R8 wr) _
    exact pe_iret (by decide +kernel) rfl rfl ⟨f6, A7, R8, 0, rfl, hIq5, (fun k n881 n882 n886 n887 => (hGq5 k n881 n882 n886 n887)), (fun k n65 n66 n67 => ((hFq5 k n66 n67)).trans (upa_fr eA4 n65)), (fun k n2 n5 => (hHq5 k n2 n5)), Or.inl ⟨rfl, trivial⟩⟩
  · skip
    obtain ⟨erq5, kq5⟩ := kq5
    subst erq5
    show pmE pg X pg_tyl pg_cl (d + 9) 133 25 [.ref 55, .ref 33, .int x2, .int x3] [.int 1] (cd f6 A7 R8 wr) _
    exact pe_iret (by decide +kernel) rfl rfl ⟨f6, A7, R8, 1, rfl, hIq5, (fun k n881 n882 n886 n887 => (hGq5 k n881 n882 n886 n887)), (fun k n65 n66 n67 => ((hFq5 k n66 n67)).trans (upa_fr eA4 n65)), (fun k n2 n5 => (hHq5 k n2 n5)), Or.inr (⟨rfl, trivial⟩)⟩
set_option maxRecDepth 100000 in
set_option maxHeartbeats 8000000 in
theorem CL_147_2 {X : pm_X} {d : Nat} {wr : pm_W} {Q : pm_R → Prop} {f : Nat → Int32} {A : Nat → List Int32} {R : Nat → Value} {x1 : Int32} (hX : XO X) (hI : CI f A R) (k_28_0 : ∀ (y2 : Int32), (0 ≤ y2.toInt ∧ y2.toInt ≤ 6) → pmE pg X pg_tyl pg_cl (d) 147 28 [.ref 55, .int x1, .int y2] [] (cd f A R wr) Q) (kr_1 : Q (some (.int 1), cd f A R wr, 0, 0)) : ∀ (m : Nat) (x2 : Int32), (0 ≤ x2.toInt ∧ x2.toInt ≤ 6) → 6 - x2.toInt < (m : Int) → pmE pg X pg_tyl pg_cl (d) 147 2 [.ref 55, .int x1, .int x2] [] (cd f A R wr) Q := by
  intro m
  induction m with
  | zero =>
    intro x2 gx2 hm
    exfalso
    have l0 := zi_lo x2
    have u0 := zi_hi x2
    omega
  | succ m ih =>
    intro x2 gx2 hm
    refine pe_iload_n (j := 2) (by decide +kernel) rfl ?_
    refine pe_aload_n (j := 0) (by decide +kernel) rfl ?_
    refine pe_get (j := 56) (ci := 6) (n := 6) (by decide +kernel) (by decide +kernel) cd_o55 rfl ?_
    have hr_f_886 := cf_886 hI
    refine pz_icmp_ge (off := 21) (t := 28) (by decide +kernel) (by decide) rfl rfl rfl (fun h1 => ?_) (fun h1 => ?_)
    · skip
      exact k_28_0 x2 (by omega)
    · skip
      refine pe_aload_n (j := 0) (by decide +kernel) rfl ?_
      refine pe_get (j := 25) (ci := 6) (n := 5) (by decide +kernel) (by decide +kernel) cd_o55 rfl ?_
      refine pe_iload_n (j := 2) (by decide +kernel) rfl ?_
      refine pz_iald (by decide +kernel) cd_a67 (cl_67 hI) rfl (by omega) (by omega) (fun v2 ev2 => ?_)
      have rv2 : 0 ≤ v2.toInt ∧ v2.toInt ≤ 8 := ct_67 hI ev2
      refine pe_iload_n (j := 1) (by decide +kernel) rfl ?_
      have lw4 := zi_lo x1
      have uw4 := zi_hi x1
      refine pz_icmp_ne (off := 5) (t := 22) (by decide +kernel) (by decide) rfl rfl rfl (fun h3 => ?_) (fun h3 => ?_)
      · skip
        refine pz_iinc (j := 2) (n := 1) (by decide +kernel) rfl rfl (by decide +kernel) (by omega) (by omega) (fun z5 hz5 => ?_)
        show pmE pg X pg_tyl pg_cl (d) 147 25 [.ref 55, .int x1, .int z5] [] (cd f A R wr) _
        refine pe_goto (off := (-23)) (t := 2) (by decide +kernel) (by decide) rfl ?_
        exact ih z5 (by omega) (by omega)
      · skip
        refine pe_iconstv (n := 1) (v := 1) (by decide +kernel) (by decide +kernel) ?_
        exact pe_iret (by decide +kernel) rfl rfl kr_1
set_option maxRecDepth 100000 in
set_option maxHeartbeats 8000000 in
theorem CM_147 {X : pm_X} {d : Nat} {wr : pm_W} {f : Nat → Int32} {A : Nat → List Int32} {R : Nat → Value} {x1 : Int32} (hX : XO X) (hI : CI f A R) : pmE pg X pg_tyl pg_cl (d) 147 0 (pm_ent (pm_max pg 147) [.ref 55, .int x1]) [] (cd f A R wr) (fun q => ∃ (r : Int32), q = (some (.int r), cd f A R wr, 0, 0) ∧ ((r = 1 ∧ True) ∨ (r = 0 ∧ True))) := by
  show pmE pg X pg_tyl pg_cl (d) 147 0 [.ref 55, .int x1, pm_dead] [] (cd f A R wr) _
  refine pe_iconstv (n := 0) (v := 0) (by decide +kernel) (by decide +kernel) ?_
  refine pe_istore_n (j := 2) (ls' := [.ref 55, .int x1, .int 0]) (by decide +kernel) (Nat.le_of_ble_eq_true rfl) rfl ?_
  refine CL_147_2 hX hI (fun y1 gy1 => ?_) (⟨1, rfl, Or.inl ⟨rfl, trivial⟩⟩) 7 0 (by decide +kernel) (by decide +kernel)
  refine pe_iconstv (n := 0) (v := 0) (by decide +kernel) (by decide +kernel) ?_
  exact pe_iret (by decide +kernel) rfl rfl ⟨0, rfl, Or.inr (⟨rfl, trivial⟩)⟩
set_option maxRecDepth 100000 in
set_option maxHeartbeats 8000000 in
theorem CL_146_28 {X : pm_X} {d : Nat} {wr : pm_W} {Q : pm_R → Prop} {f0 : Nat → Int32} {A0 : Nat → List Int32} {R0 : Nat → Value} {x2 x3 : Int32} {v : Nat} (hX : XO X) (hv : VV v) (hR0 : R0 0 = .ref v) (gx2 : (0 ≤ x2.toInt ∧ x2.toInt ≤ 6)) (gx3 : (0 ≤ x3.toInt ∧ x3.toInt ≤ 8)) (k_96_0 : ∀ (f' : Nat → Int32) (A' : Nat → List Int32) (R' : Nat → Value) (y4 : Int32) (y5 : Int32) (y6 : Int32) (v7 : Value), CI f' A' R' → (∀ k : Nat, k ≠ 881 → k ≠ 882 → k ≠ 886 → k ≠ 887 → f' k = f0 k) → (∀ k : Nat, k ≠ 65 → k ≠ 66 → k ≠ 67 → A' k = A0 k) → (∀ k : Nat, k ≠ 2 → k ≠ 5 → R' k = R0 k) → (0 ≤ y6.toInt ∧ y6.toInt ≤ 99) → pmE pg X pg_tyl pg_cl (d + 9) 146 96 [.ref 55, .ref 33, .int x2, .int x3, .int y4, .int y5, .int y6, v7] [] (cd f' A' R' wr) Q) : ∀ (m : Nat) (f : Nat → Int32) (A : Nat → List Int32) (R : Nat → Value) (x4 : Int32) (x5 : Int32) (x6 : Int32) (u7 : Value), CI f A R → (∀ k : Nat, k ≠ 881 → k ≠ 882 → k ≠ 886 → k ≠ 887 → f k = f0 k) → (∀ k : Nat, k ≠ 65 → k ≠ 66 → k ≠ 67 → A k = A0 k) → (∀ k : Nat, k ≠ 2 → k ≠ 5 → R k = R0 k) → (0 ≤ x6.toInt ∧ x6.toInt ≤ 99) → 99 - x6.toInt < (m : Int) → pmE pg X pg_tyl pg_cl (d + 9) 146 28 [.ref 55, .ref 33, .int x2, .int x3, .int x4, .int x5, .int x6, u7] [] (cd f A R wr) Q := by
  have bv := VV_b hv
  intro m
  induction m with
  | zero =>
    intro f A R x4 x5 x6 u7 hI hG hF hH gx6 hm
    exfalso
    have l0 := zi_lo x6
    have u0 := zi_hi x6
    omega
  | succ m ih =>
    intro f A R x4 x5 x6 u7 hI hG hF hH gx6 hm
    refine pe_iload (j := 6) (by decide +kernel) rfl ?_
    refine pe_bipushv (n := 99) (v := 99) (by decide +kernel) (by decide +kernel) ?_
    refine pz_icmp_ge (off := 64) (t := 96) (by decide +kernel) (by decide) rfl rfl kz_99 (fun h1 => ?_) (fun h1 => ?_)
    · skip
      exact k_96_0 f A R x4 x5 x6 (u7) hI (fun k n881 n882 n886 n887 => (hG k n881 n882 n886 n887)) (fun k n65 n66 n67 => (hF k n65 n66 n67)) (fun k n2 n5 => (hH k n2 n5)) (by omega)
    · skip
      refine pe_iload (j := 5) (by decide +kernel) rfl ?_
      refine pe_iload (j := 4) (by decide +kernel) rfl ?_
      refine pw_sub (by decide +kernel) (fun z2 => ?_)
      refine pe_iconstv (n := 1) (v := 1) (by decide +kernel) (by decide +kernel) ?_
      have lw4 := zi_lo z2
      have uw4 := zi_hi z2
      refine pz_icmp_le (off := 55) (t := 96) (by decide +kernel) (by decide) rfl rfl kz_1 (fun h3 => ?_) (fun h3 => ?_)
      · skip
        exact k_96_0 f A R x4 x5 x6 (u7) hI (fun k n881 n882 n886 n887 => (hG k n881 n882 n886 n887)) (fun k n65 n66 n67 => (hF k n65 n66 n67)) (fun k n2 n5 => (hH k n2 n5)) (by omega)
      · skip
        refine pe_iload (j := 4) (by decide +kernel) rfl ?_
        refine pe_iload (j := 5) (by decide +kernel) rfl ?_
        refine pw_add (by decide +kernel) (fun z5 => ?_)
        refine pe_iconstv (n := 1) (v := 1) (by decide +kernel) (by decide +kernel) ?_
        refine pw_shr (by decide +kernel) (fun z6 => ?_)
        refine pe_istore (j := 7) (ls' := [.ref 55, .ref 33, .int x2, .int x3, .int x4, .int x5, .int x6, .int z6]) (by decide +kernel) (Nat.le_of_ble_eq_true rfl) rfl ?_
        refine pe_aload_n (j := 0) (by decide +kernel) rfl ?_
        refine pe_get (j := 18) (ci := 6) (n := 3) (by decide +kernel) (by decide +kernel) cd_o55 rfl ?_
        refine pe_iload_n (j := 3) (by decide +kernel) rfl ?_
        refine pe_iload (j := 7) (by decide +kernel) rfl ?_
        refine cz_st65 (by decide +kernel) hI rfl (by omega) (by omega) (fun A7 eA7 hIA7 => ?_)
        refine pe_aload_n (j := 0) (by decide +kernel) rfl ?_
        refine pe_aload_n (j := 1) (by decide +kernel) rfl ?_
        refine pe_iload_n (j := 2) (by decide +kernel) rfl ?_
        refine pe_iconstv (n := 1) (v := 1) (by decide +kernel) (by decide +kernel) ?_
        refine pz_callV (j := 41) (mj := 134) (by decide +kernel) (cll_V (args := [.int 1, .int x2, .ref 33]) (n := 3) (by decide +kernel) rfl rfl cd_o55 (by decide +kernel) (Nat.le_of_ble_eq_true rfl) (Nat.le_of_ble_eq_true rfl)) (CM_134 hX hIA7 hv (((hH 0 (by decide) (by decide))).trans (hR0)) (by omega)) (fun q8a q8b q8c q8d hqq8 => ?_)
        obtain ⟨f9, A10, R11, rq8, eq8, hIq8, hGq8, hFq8, hHq8, kq8⟩ := hqq8
        cases eq8
        refine ⟨rfl, rfl, ?_⟩
        rcases kq8 with kq8 | kq8
        · skip
          obtain ⟨erq8, kq8⟩ := kq8
          subst erq8
          show pmE pg X pg_tyl pg_cl (d + 9) 146 68 [.ref 55, .ref 33, .int x2, .int x3, .int x4, .int x5, .int x6, .int z6] [.int 0] (cd f9 A10 R11 wr) _
          refine pz_if_eq (off := 18) (t := 86) (by decide +kernel) (by decide) rfl kz_0 (fun h12 => ?_) (fun h12 => by omega)
          refine pe_iload (j := 7) (by decide +kernel) rfl ?_
          refine pe_istore (j := 5) (ls' := [.ref 55, .ref 33, .int x2, .int x3, .int x4, .int z6, .int x6, .int z6]) (by decide +kernel) (Nat.le_of_ble_eq_true rfl) rfl ?_
          refine pz_iinc (j := 6) (n := 1) (by decide +kernel) rfl rfl (by decide +kernel) (by omega) (by omega) (fun z13 hz13 => ?_)
          show pmE pg X pg_tyl pg_cl (d + 9) 146 93 [.ref 55, .ref 33, .int x2, .int x3, .int x4, .int z6, .int z13, .int z6] [] (cd f9 A10 R11 wr) _
          refine pe_goto (off := (-65)) (t := 28) (by decide +kernel) (by decide) rfl ?_
          exact ih f9 A10 R11 x4 z6 z13 (.int z6) hIq8 (fun k n881 n882 n886 n887 => ((hGq8 k n881 n882 n886 n887)).trans ((hG k n881 n882 n886 n887))) (fun k n65 n66 n67 => ((hFq8 k n66 n67)).trans ((upa_fr eA7 n65).trans ((hF k n65 n66 n67)))) (fun k n2 n5 => ((hHq8 k n2 n5)).trans ((hH k n2 n5))) (by omega) (by omega)
        · skip
          obtain ⟨erq8, kq8⟩ := kq8
          subst erq8
          show pmE pg X pg_tyl pg_cl (d + 9) 146 68 [.ref 55, .ref 33, .int x2, .int x3, .int x4, .int x5, .int x6, .int z6] [.int 1] (cd f9 A10 R11 wr) _
          refine pz_if_eq (off := 18) (t := 86) (by decide +kernel) (by decide) rfl kz_1 (fun h14 => by omega) (fun h14 => ?_)
          refine pe_aload_n (j := 0) (by decide +kernel) rfl ?_
          refine pe_iload_n (j := 3) (by decide +kernel) rfl ?_
          refine pz_callV (j := 97) (mj := 147) (by decide +kernel) (cll_V (args := [.int x3]) (n := 1) (by decide +kernel) rfl rfl cd_o55 (by decide +kernel) (Nat.le_of_ble_eq_true rfl) (Nat.le_of_ble_eq_true rfl)) (CM_147 hX hIq8) (fun q15a q15b q15c q15d hqq15 => ?_)
          obtain ⟨rq15, eq15, kq15⟩ := hqq15
          cases eq15
          refine ⟨rfl, rfl, ?_⟩
          rcases kq15 with kq15 | kq15
          · skip
            obtain ⟨erq15, kq15⟩ := kq15
            subst erq15
            show pmE pg X pg_tyl pg_cl (d + 9) 146 76 [.ref 55, .ref 33, .int x2, .int x3, .int x4, .int x5, .int x6, .int z6] [.int 1] (cd f9 A10 R11 wr) _
            refine pz_if_eq (off := 10) (t := 86) (by decide +kernel) (by decide) rfl kz_1 (fun h16 => by omega) (fun h16 => ?_)
            refine pe_iload (j := 7) (by decide +kernel) rfl ?_
            refine pe_istore (j := 4) (ls' := [.ref 55, .ref 33, .int x2, .int x3, .int z6, .int x5, .int x6, .int z6]) (by decide +kernel) (Nat.le_of_ble_eq_true rfl) rfl ?_
            refine pe_goto (off := 7) (t := 90) (by decide +kernel) (by decide) rfl ?_
            refine pz_iinc (j := 6) (n := 1) (by decide +kernel) rfl rfl (by decide +kernel) (by omega) (by omega) (fun z17 hz17 => ?_)
            show pmE pg X pg_tyl pg_cl (d + 9) 146 93 [.ref 55, .ref 33, .int x2, .int x3, .int z6, .int x5, .int z17, .int z6] [] (cd f9 A10 R11 wr) _
            refine pe_goto (off := (-65)) (t := 28) (by decide +kernel) (by decide) rfl ?_
            exact ih f9 A10 R11 z6 x5 z17 (.int z6) hIq8 (fun k n881 n882 n886 n887 => ((hGq8 k n881 n882 n886 n887)).trans ((hG k n881 n882 n886 n887))) (fun k n65 n66 n67 => ((hFq8 k n66 n67)).trans ((upa_fr eA7 n65).trans ((hF k n65 n66 n67)))) (fun k n2 n5 => ((hHq8 k n2 n5)).trans ((hH k n2 n5))) (by omega) (by omega)
          · skip
            obtain ⟨erq15, kq15⟩ := kq15
            subst erq15
            show pmE pg X pg_tyl pg_cl (d + 9) 146 76 [.ref 55, .ref 33, .int x2, .int x3, .int x4, .int x5, .int x6, .int z6] [.int 0] (cd f9 A10 R11 wr) _
            refine pz_if_eq (off := 10) (t := 86) (by decide +kernel) (by decide) rfl kz_0 (fun h18 => ?_) (fun h18 => by omega)
            refine pe_iload (j := 7) (by decide +kernel) rfl ?_
            refine pe_istore (j := 5) (ls' := [.ref 55, .ref 33, .int x2, .int x3, .int x4, .int z6, .int x6, .int z6]) (by decide +kernel) (Nat.le_of_ble_eq_true rfl) rfl ?_
            refine pz_iinc (j := 6) (n := 1) (by decide +kernel) rfl rfl (by decide +kernel) (by omega) (by omega) (fun z19 hz19 => ?_)
            show pmE pg X pg_tyl pg_cl (d + 9) 146 93 [.ref 55, .ref 33, .int x2, .int x3, .int x4, .int z6, .int z19, .int z6] [] (cd f9 A10 R11 wr) _
            refine pe_goto (off := (-65)) (t := 28) (by decide +kernel) (by decide) rfl ?_
            exact ih f9 A10 R11 x4 z6 z19 (.int z6) hIq8 (fun k n881 n882 n886 n887 => ((hGq8 k n881 n882 n886 n887)).trans ((hG k n881 n882 n886 n887))) (fun k n65 n66 n67 => ((hFq8 k n66 n67)).trans ((upa_fr eA7 n65).trans ((hF k n65 n66 n67)))) (fun k n2 n5 => ((hHq8 k n2 n5)).trans ((hH k n2 n5))) (by omega) (by omega)
set_option maxRecDepth 100000 in
set_option maxHeartbeats 8000000 in
theorem CM_146 {X : pm_X} {d : Nat} {wr : pm_W} {f : Nat → Int32} {A : Nat → List Int32} {R : Nat → Value} {x2 x3 : Int32} {v : Nat} (hX : XO X) (hI : CI f A R) (hv : VV v) (hR0 : R 0 = .ref v) (gx2 : (0 ≤ x2.toInt ∧ x2.toInt ≤ 6)) (gx3 : (0 ≤ x3.toInt ∧ x3.toInt ≤ 8)) : pmE pg X pg_tyl pg_cl (d + 9) 146 0 (pm_ent (pm_max pg 146) [.ref 55, .ref 33, .int x2, .int x3]) [] (cd f A R wr) (fun q => ∃ (f' : Nat → Int32) (A' : Nat → List Int32) (R' : Nat → Value) (r : Int32), q = (some (.int r), cd f' A' R' wr, 0, 0) ∧ CI f' A' R' ∧ (∀ k : Nat, k ≠ 881 → k ≠ 882 → k ≠ 886 → k ≠ 887 → f' k = f k) ∧ (∀ k : Nat, k ≠ 65 → k ≠ 66 → k ≠ 67 → A' k = A k) ∧ (∀ k : Nat, k ≠ 2 → k ≠ 5 → R' k = R k) ∧ ((True ∧ True))) := by
  have bv := VV_b hv
  show pmE pg X pg_tyl pg_cl (d + 9) 146 0 [.ref 55, .ref 33, .int x2, .int x3, pm_dead, pm_dead, pm_dead, pm_dead] [] (cd f A R wr) _
  refine pe_aload_n (j := 1) (by decide +kernel) rfl ?_
  refine pe_get (j := 28) (ci := 7) (n := 0) (by decide +kernel) (by decide +kernel) cd_o33 rfl ?_
  refine pe_topV (v := .ref v) (hR0) ?_
  refine pe_get (j := 32) (ci := 9) (n := 4) (by decide +kernel) (by decide +kernel) (cv_o hv) rfl ?_
  refine pe_iconstv (n := 0) (v := 0) (by decide +kernel) (by decide +kernel) ?_
  refine pe_aload_n (j := 0) (by decide +kernel) rfl ?_
  refine pe_get (j := 18) (ci := 6) (n := 3) (by decide +kernel) (by decide +kernel) cd_o55 rfl ?_
  refine pe_iconstv (n := 0) (v := 0) (by decide +kernel) (by decide +kernel) ?_
  refine pe_bipushv (n := 9) (v := 9) (by decide +kernel) (by decide +kernel) ?_
  have hl1 := kz_9
  have hl2 := kz_0
  have hl3 := kz_0
  refine cz_copy (j := 35) (a := 0) (b := 0) (c := 9) (by decide +kernel) (by decide +kernel) (Nat.le_of_ble_eq_true rfl) (cv_a2 hv) cd_a65 (by decide +kernel) (fun _ => cd_s65) hI (cv_l2 hv hI) (cl_65 hI) kz_0 kz_0 kz_9 (by omega) (by omega) (by omega) (by omega) (by omega) (Or.inl rfl) (ct_no (by decide +kernel)) (fun A4 eA4 hIA4 => ?_)
  refine pe_iconstv (n := (-1)) (v := (-1)) (by decide +kernel) (by decide +kernel) ?_
  refine pe_istore (j := 4) (ls' := [.ref 55, .ref 33, .int x2, .int x3, .int (-1), pm_dead, pm_dead, pm_dead]) (by decide +kernel) (Nat.le_of_ble_eq_true rfl) rfl ?_
  refine pe_bipushv (n := 100) (v := 100) (by decide +kernel) (by decide +kernel) ?_
  refine pe_istore (j := 5) (ls' := [.ref 55, .ref 33, .int x2, .int x3, .int (-1), .int 100, pm_dead, pm_dead]) (by decide +kernel) (Nat.le_of_ble_eq_true rfl) rfl ?_
  refine pe_iconstv (n := 0) (v := 0) (by decide +kernel) (by decide +kernel) ?_
  refine pe_istore (j := 6) (ls' := [.ref 55, .ref 33, .int x2, .int x3, .int (-1), .int 100, .int 0, pm_dead]) (by decide +kernel) (Nat.le_of_ble_eq_true rfl) rfl ?_
  refine CL_146_28 hX hv (hR0) (by omega) (by omega) (fun f5 A6 R7 y8 y9 y10 u11 hIy12 hGf5 hFA6 hHR7 gy10 => ?_) 100 f A4 R (-1) 100 0 (pm_dead) hIA4 (fun k _ _ _ _ => rfl) (fun k _ _ _ => rfl) (fun k _ _ => rfl) (by decide +kernel) (by decide +kernel)
  refine pe_iload (j := 4) (by decide +kernel) rfl ?_
  exact pe_iret (by decide +kernel) rfl rfl ⟨f5, A6, R7, y8, rfl, hIy12, (fun k n881 n882 n886 n887 => (hGf5 k n881 n882 n886 n887)), (fun k n65 n66 n67 => ((hFA6 k n65 n66 n67)).trans (upa_fr eA4 n65)), (fun k n2 n5 => (hHR7 k n2 n5)), ⟨trivial, trivial⟩⟩
set_option maxRecDepth 100000 in
set_option maxHeartbeats 8000000 in
theorem CM_152 {X : pm_X} {d : Nat} {wr : pm_W} {f : Nat → Int32} {A : Nat → List Int32} {R : Nat → Value} {x2 x3 : Int32} {v : Nat} (hX : XO X) (hI : CI f A R) (hv : VV v) (hR0 : R 0 = .ref v) (hR2 : R 2 = .ref 33) : pmE pg X pg_tyl pg_cl (d + 2) 152 0 (pm_ent (pm_max pg 152) [.ref 55, .int 6, .int x2, .int x3]) [] (cd f A R wr) (fun q => ∃ (r : Int32), q = (some (.int r), cd f A R wr, 0, 0) ∧ ((r = 0 ∧ True) ∨ (r = 1 ∧ True))) := by
  have bv := VV_b hv
  show pmE pg X pg_tyl pg_cl (d + 2) 152 0 [.ref 55, .int 6, .int x2, .int x3, pm_dead, pm_dead, pm_dead] [] (cd f A R wr) _
  refine pe_aload_n (j := 0) (by decide +kernel) rfl ?_
  refine pe_get (j := 22) (ci := 6) (n := 4) (by decide +kernel) (by decide +kernel) cd_o55 rfl ?_
  refine pe_iload_n (j := 1) (by decide +kernel) rfl ?_
  refine pe_iconstv (n := 1) (v := 1) (by decide +kernel) (by decide +kernel) ?_
  refine pe_isub (by decide +kernel) ?_
  refine pe_top (v := 5) (by decide +kernel) ?_
  refine pz_iald (by decide +kernel) cd_a66 (cl_66 hI) kz_5 (by omega) (by omega) (fun v2 ev2 => ?_)
  have rv2 : 0 ≤ v2.toInt ∧ v2.toInt ≤ 8 := ct_66 hI ev2
  refine pe_istore (j := 4) (ls' := [.ref 55, .int 6, .int x2, .int x3, .int v2, pm_dead, pm_dead]) (by decide +kernel) (Nat.le_of_ble_eq_true rfl) rfl ?_
  refine pe_iload_n (j := 1) (by decide +kernel) rfl ?_
  refine pe_iconstv (n := 2) (v := 2) (by decide +kernel) (by decide +kernel) ?_
  refine pz_icmp_lt (off := 29) (t := 41) (by decide +kernel) (by decide) rfl kz_6 kz_2 (fun h3 => by omega) (fun h3 => ?_)
  refine pe_aload_n (j := 0) (by decide +kernel) rfl ?_
  refine pe_get (j := 12) (ci := 6) (n := 0) (by decide +kernel) (by decide +kernel) cd_o55 rfl ?_
  refine pe_topV (v := .ref 33) (hR2) ?_
  refine pe_iload (j := 4) (by decide +kernel) rfl ?_
  refine pe_aload_n (j := 0) (by decide +kernel) rfl ?_
  refine pe_get (j := 22) (ci := 6) (n := 4) (by decide +kernel) (by decide +kernel) cd_o55 rfl ?_
  refine pe_iconstv (n := 0) (v := 0) (by decide +kernel) (by decide +kernel) ?_
  refine pz_iald (by decide +kernel) cd_a66 (cl_66 hI) kz_0 (by omega) (by omega) (fun v4 ev4 => ?_)
  have rv4 : 0 ≤ v4.toInt ∧ v4.toInt ≤ 8 := ct_66 hI ev4
  refine pz_callV (j := 59) (mj := 77) (by decide +kernel) (cll_V (args := [.int v4, .int v2]) (n := 2) (by decide +kernel) rfl rfl cd_o33 (by decide +kernel) (Nat.le_of_ble_eq_true rfl) (Nat.le_of_ble_eq_true rfl)) (CM_77 hX hI hv (hR0) (by omega) (by omega)) (fun q5a q5b q5c q5d hqq5 => ?_)
  obtain ⟨rq5, eq5, kq5⟩ := hqq5
  cases eq5
  refine ⟨rfl, rfl, ?_⟩
  show pmE pg X pg_tyl pg_cl (d + 2) 152 30 [.ref 55, .int 6, .int x2, .int x3, .int v2, pm_dead, pm_dead] [.int rq5] (cd f A R wr) _
  refine pe_aload_n (j := 0) (by decide +kernel) rfl ?_
  refine pe_get (j := 53) (ci := 6) (n := 2) (by decide +kernel) (by decide +kernel) cd_o55 rfl ?_
  have lw7 := zi_lo rq5
  have uw7 := zi_hi rq5
  have lw8 := zi_lo (f 882)
  have uw8 := zi_hi (f 882)
  refine pz_icmp_lt (off := 7) (t := 41) (by decide +kernel) (by decide) rfl rfl rfl (fun h6 => ?_) (fun h6 => ?_)
  · skip
    refine pe_iconstv (n := 0) (v := 0) (by decide +kernel) (by decide +kernel) ?_
    refine pe_istore (j := 5) (ls' := [.ref 55, .int 6, .int x2, .int x3, .int v2, .int 0, pm_dead]) (by decide +kernel) (Nat.le_of_ble_eq_true rfl) rfl ?_
    refine pe_iload_n (j := 1) (by decide +kernel) rfl ?_
    refine pe_iload_n (j := 3) (by decide +kernel) rfl ?_
    have lw10 := zi_lo x3
    have uw10 := zi_hi x3
    refine pz_icmp_ge (off := 9) (t := 55) (by decide +kernel) (by decide) rfl kz_6 rfl (fun h9 => ?_) (fun h9 => ?_)
    · skip
      refine pe_iload (j := 5) (by decide +kernel) rfl ?_
      exact pe_iret (by decide +kernel) rfl rfl ⟨0, rfl, Or.inl ⟨rfl, trivial⟩⟩
    · skip
      refine pe_iload_n (j := 1) (by decide +kernel) rfl ?_
      refine pe_bipushv (n := 6) (v := 6) (by decide +kernel) (by decide +kernel) ?_
      refine pz_icmp_lt (off := 6) (t := 58) (by decide +kernel) (by decide) rfl kz_6 kz_6 (fun h11 => by omega) (fun h11 => ?_)
      refine pe_iload (j := 5) (by decide +kernel) rfl ?_
      exact pe_iret (by decide +kernel) rfl rfl ⟨0, rfl, Or.inl ⟨rfl, trivial⟩⟩
  · skip
    refine pe_iconstv (n := 1) (v := 1) (by decide +kernel) (by decide +kernel) ?_
    refine pe_goto (off := 4) (t := 42) (by decide +kernel) (by decide) rfl ?_
    refine pe_istore (j := 5) (ls' := [.ref 55, .int 6, .int x2, .int x3, .int v2, .int 1, pm_dead]) (by decide +kernel) (Nat.le_of_ble_eq_true rfl) rfl ?_
    refine pe_iload_n (j := 1) (by decide +kernel) rfl ?_
    refine pe_iload_n (j := 3) (by decide +kernel) rfl ?_
    have lw13 := zi_lo x3
    have uw13 := zi_hi x3
    refine pz_icmp_ge (off := 9) (t := 55) (by decide +kernel) (by decide) rfl kz_6 rfl (fun h12 => ?_) (fun h12 => ?_)
    · skip
      refine pe_iload (j := 5) (by decide +kernel) rfl ?_
      exact pe_iret (by decide +kernel) rfl rfl ⟨1, rfl, Or.inr (⟨rfl, trivial⟩)⟩
    · skip
      refine pe_iload_n (j := 1) (by decide +kernel) rfl ?_
      refine pe_bipushv (n := 6) (v := 6) (by decide +kernel) (by decide +kernel) ?_
      refine pz_icmp_lt (off := 6) (t := 58) (by decide +kernel) (by decide) rfl kz_6 kz_6 (fun h14 => by omega) (fun h14 => ?_)
      refine pe_iload (j := 5) (by decide +kernel) rfl ?_
      exact pe_iret (by decide +kernel) rfl rfl ⟨1, rfl, Or.inr (⟨rfl, trivial⟩)⟩
set_option maxRecDepth 100000 in
set_option maxHeartbeats 8000000 in
theorem CL_152_1_61 {X : pm_X} {d : Nat} {wr : pm_W} {Q : pm_R → Prop} {f : Nat → Int32} {A0 : Nat → List Int32} {R : Nat → Value} {x2 x3 x4 : Int32} {v : Nat} (hX : XO X) (hv : VV v) (hR0 : R 0 = .ref v) (hR2 : R 2 = .ref 33) (gx3 : (6 ≤ x3.toInt)) (gx4 : (0 ≤ x4.toInt ∧ x4.toInt ≤ 8)) (k_136_0 : ∀ (A' : Nat → List Int32) (y5 : Int32) (y6 : Int32), CI f A' R → (∀ k : Nat, k ≠ 66 → A' k = A0 k) → (0 ≤ y6.toInt ∧ y6.toInt ≤ 9) → pmE pg X pg_tyl pg_cl (d + 3) 152 136 [.ref 55, .int 5, .int x2, .int x3, .int x4, .int y5, .int y6] [] (cd f A' R wr) Q) : ∀ (m : Nat) (A : Nat → List Int32) (x5 : Int32) (x6 : Int32), CI f A R → (∀ k : Nat, k ≠ 66 → A k = A0 k) → (0 ≤ x6.toInt ∧ x6.toInt ≤ 9) → 9 - x6.toInt < (m : Int) → pmE pg X pg_tyl pg_cl (d + 3) 152 61 [.ref 55, .int 5, .int x2, .int x3, .int x4, .int x5, .int x6] [] (cd f A R wr) Q := by
  have bv := VV_b hv
  intro m
  induction m with
  | zero =>
    intro A x5 x6 hI hF gx6 hm
    exfalso
    have l0 := zi_lo x6
    have u0 := zi_hi x6
    omega
  | succ m ih =>
    intro A x5 x6 hI hF gx6 hm
    refine pe_iload (j := 6) (by decide +kernel) rfl ?_
    refine pe_aload_n (j := 0) (by decide +kernel) rfl ?_
    refine pe_get (j := 12) (ci := 6) (n := 0) (by decide +kernel) (by decide +kernel) cd_o55 rfl ?_
    refine pe_topV (v := .ref 33) (hR2) ?_
    refine pe_get (j := 28) (ci := 7) (n := 0) (by decide +kernel) (by decide +kernel) cd_o33 rfl ?_
    refine pe_topV (v := .ref v) (hR0) ?_
    refine pe_get (j := 70) (ci := 9) (n := 0) (by decide +kernel) (by decide +kernel) (cv_o hv) rfl ?_
    have hr_f_16v := cv_people hv hI
    refine pz_icmp_ge (off := 63) (t := 136) (by decide +kernel) (by decide) rfl rfl rfl (fun h1 => ?_) (fun h1 => ?_)
    · skip
      exact k_136_0 A x5 x6 hI (fun k n66 => (hF k n66)) (by omega)
    · skip
      refine pe_iload_n (j := 2) (by decide +kernel) rfl ?_
      refine pe_iload (j := 6) (by decide +kernel) rfl ?_
      refine pi_S (j := 73) (mj := 89) (by decide +kernel) (by decide +kernel) rfl ?_
      show pmE pg X pg_tyl pg_cl (d + 2) 89 0 [.int x2, .int x6] [] (cd f A R wr) _
      refine pe_iload_n (j := 0) (by decide +kernel) rfl ?_
      refine pe_iload_n (j := 1) (by decide +kernel) rfl ?_
      refine pw_shr (by decide +kernel) (fun z2 => ?_)
      refine pe_iconstv (n := 1) (v := 1) (by decide +kernel) (by decide +kernel) ?_
      refine pz_and1 (by decide +kernel) (fun z3 hz3 => ?_)
      refine pz_if_eq (off := 7) (t := 12) (by decide +kernel) (by decide) rfl rfl (fun h4 => ?_) (fun h4 => ?_)
      · skip
        refine pe_iconstv (n := 0) (v := 0) (by decide +kernel) (by decide +kernel) ?_
        refine pe_iret (by decide +kernel) rfl rfl ⟨rfl, rfl, ?_⟩
        show pmE pg X pg_tyl pg_cl (d + 3) 152 82 [.ref 55, .int 5, .int x2, .int x3, .int x4, .int x5, .int x6] [.int 0] (cd f A R wr) _
        refine pz_if_ne (off := 48) (t := 130) (by decide +kernel) (by decide) rfl kz_0 (fun h5 => by omega) (fun h5 => ?_)
        refine pe_aload_n (j := 0) (by decide +kernel) rfl ?_
        refine pe_get (j := 12) (ci := 6) (n := 0) (by decide +kernel) (by decide +kernel) cd_o55 rfl ?_
        refine pe_topV (v := .ref 33) (hR2) ?_
        refine pe_iload (j := 4) (by decide +kernel) rfl ?_
        refine pe_iload (j := 6) (by decide +kernel) rfl ?_
        refine pz_callV (j := 59) (mj := 77) (by decide +kernel) (cll_V (args := [.int x6, .int x4]) (n := 2) (by decide +kernel) rfl rfl cd_o33 (by decide +kernel) (Nat.le_of_ble_eq_true rfl) (Nat.le_of_ble_eq_true rfl)) (CM_77 hX hI hv (hR0) (by omega) (by omega)) (fun q6a q6b q6c q6d hqq6 => ?_)
        obtain ⟨rq6, eq6, kq6⟩ := hqq6
        cases eq6
        refine ⟨rfl, rfl, ?_⟩
        show pmE pg X pg_tyl pg_cl (d + 3) 152 96 [.ref 55, .int 5, .int x2, .int x3, .int x4, .int x5, .int x6] [.int rq6] (cd f A R wr) _
        refine pe_aload_n (j := 0) (by decide +kernel) rfl ?_
        refine pe_get (j := 53) (ci := 6) (n := 2) (by decide +kernel) (by decide +kernel) cd_o55 rfl ?_
        have lw8 := zi_lo rq6
        have uw8 := zi_hi rq6
        have lw9 := zi_lo (f 882)
        have uw9 := zi_hi (f 882)
        refine pz_icmp_lt (off := 30) (t := 130) (by decide +kernel) (by decide) rfl rfl rfl (fun h7 => ?_) (fun h7 => ?_)
        · skip
          refine pz_iinc (j := 6) (n := 1) (by decide +kernel) rfl rfl (by decide +kernel) (by omega) (by omega) (fun z10 hz10 => ?_)
          show pmE pg X pg_tyl pg_cl (d + 3) 152 133 [.ref 55, .int 5, .int x2, .int x3, .int x4, .int x5, .int z10] [] (cd f A R wr) _
          refine pe_goto (off := (-72)) (t := 61) (by decide +kernel) (by decide) rfl ?_
          exact ih A x5 z10 hI (fun k n66 => (hF k n66)) (by omega) (by omega)
        · skip
          refine pe_aload_n (j := 0) (by decide +kernel) rfl ?_
          refine pe_get (j := 22) (ci := 6) (n := 4) (by decide +kernel) (by decide +kernel) cd_o55 rfl ?_
          refine pe_iload_n (j := 1) (by decide +kernel) rfl ?_
          refine pe_iload (j := 6) (by decide +kernel) rfl ?_
          refine cz_st66 (by decide +kernel) hI kz_5 (by omega) (by omega) (by simp only [CT]; omega) (fun A11 eA11 hIA11 => ?_)
          refine pe_iload (j := 5) (by decide +kernel) rfl ?_
          refine pe_aload_n (j := 0) (by decide +kernel) rfl ?_
          refine pe_iload_n (j := 1) (by decide +kernel) rfl ?_
          refine pe_iconstv (n := 1) (v := 1) (by decide +kernel) (by decide +kernel) ?_
          refine pe_iadd (by decide +kernel) ?_
          refine pe_top (v := 6) (by decide +kernel) ?_
          refine pe_iload_n (j := 2) (by decide +kernel) rfl ?_
          refine pe_iconstv (n := 1) (v := 1) (by decide +kernel) (by decide +kernel) ?_
          refine pe_iload (j := 6) (by decide +kernel) rfl ?_
          refine pz_shl1 (by decide +kernel) rfl (by omega) (by omega) (fun z13 hz13 => ?_)
          refine pw_or (by decide +kernel) (fun z14 => ?_)
          refine pe_iload_n (j := 3) (by decide +kernel) rfl ?_
          refine pz_callS (j := 101) (mj := 152) (by decide +kernel) (by decide +kernel) rfl (CM_152 hX hIA11 hv (hR0) (hR2)) (fun q15a q15b q15c q15d hqq15 => ?_)
          obtain ⟨rq15, eq15, kq15⟩ := hqq15
          cases eq15
          refine ⟨rfl, rfl, ?_⟩
          rcases kq15 with kq15 | kq15
          · skip
            obtain ⟨erq15, kq15⟩ := kq15
            subst erq15
            show pmE pg X pg_tyl pg_cl (d + 3) 152 127 [.ref 55, .int 5, .int x2, .int x3, .int x4, .int x5, .int x6] [.int 0, .int x5] (cd f A11 R wr) _
            have lw17 := zi_lo x5
            have uw17 := zi_hi x5
            refine pz_add (by decide +kernel) rfl kz_0 (by omega) (by omega) (fun z16 hz16 => ?_)
            refine pe_istore (j := 5) (ls' := [.ref 55, .int 5, .int x2, .int x3, .int x4, .int z16, .int x6]) (by decide +kernel) (Nat.le_of_ble_eq_true rfl) rfl ?_
            refine pz_iinc (j := 6) (n := 1) (by decide +kernel) rfl rfl (by decide +kernel) (by omega) (by omega) (fun z18 hz18 => ?_)
            show pmE pg X pg_tyl pg_cl (d + 3) 152 133 [.ref 55, .int 5, .int x2, .int x3, .int x4, .int z16, .int z18] [] (cd f A11 R wr) _
            refine pe_goto (off := (-72)) (t := 61) (by decide +kernel) (by decide) rfl ?_
            exact ih A11 z16 z18 hIA11 (fun k n66 => (upa_fr eA11 n66).trans ((hF k n66))) (by omega) (by omega)
          · skip
            obtain ⟨erq15, kq15⟩ := kq15
            subst erq15
            show pmE pg X pg_tyl pg_cl (d + 3) 152 127 [.ref 55, .int 5, .int x2, .int x3, .int x4, .int x5, .int x6] [.int 1, .int x5] (cd f A11 R wr) _
            refine pw_add (by decide +kernel) (fun z19 => ?_)
            refine pe_istore (j := 5) (ls' := [.ref 55, .int 5, .int x2, .int x3, .int x4, .int z19, .int x6]) (by decide +kernel) (Nat.le_of_ble_eq_true rfl) rfl ?_
            refine pz_iinc (j := 6) (n := 1) (by decide +kernel) rfl rfl (by decide +kernel) (by omega) (by omega) (fun z20 hz20 => ?_)
            show pmE pg X pg_tyl pg_cl (d + 3) 152 133 [.ref 55, .int 5, .int x2, .int x3, .int x4, .int z19, .int z20] [] (cd f A11 R wr) _
            refine pe_goto (off := (-72)) (t := 61) (by decide +kernel) (by decide) rfl ?_
            exact ih A11 z19 z20 hIA11 (fun k n66 => (upa_fr eA11 n66).trans ((hF k n66))) (by omega) (by omega)
      · skip
        refine pe_iconstv (n := 1) (v := 1) (by decide +kernel) (by decide +kernel) ?_
        refine pe_goto (off := 4) (t := 13) (by decide +kernel) (by decide) rfl ?_
        refine pe_iret (by decide +kernel) rfl rfl ⟨rfl, rfl, ?_⟩
        show pmE pg X pg_tyl pg_cl (d + 3) 152 82 [.ref 55, .int 5, .int x2, .int x3, .int x4, .int x5, .int x6] [.int 1] (cd f A R wr) _
        refine pz_if_ne (off := 48) (t := 130) (by decide +kernel) (by decide) rfl kz_1 (fun h21 => ?_) (fun h21 => by omega)
        refine pz_iinc (j := 6) (n := 1) (by decide +kernel) rfl rfl (by decide +kernel) (by omega) (by omega) (fun z22 hz22 => ?_)
        show pmE pg X pg_tyl pg_cl (d + 3) 152 133 [.ref 55, .int 5, .int x2, .int x3, .int x4, .int x5, .int z22] [] (cd f A R wr) _
        refine pe_goto (off := (-72)) (t := 61) (by decide +kernel) (by decide) rfl ?_
        exact ih A x5 z22 hI (fun k n66 => (hF k n66)) (by omega) (by omega)
set_option maxRecDepth 100000 in
set_option maxHeartbeats 8000000 in
theorem CM_152_1 {X : pm_X} {d : Nat} {wr : pm_W} {f : Nat → Int32} {A : Nat → List Int32} {R : Nat → Value} {x2 x3 : Int32} {v : Nat} (hX : XO X) (hI : CI f A R) (hv : VV v) (hR0 : R 0 = .ref v) (hR2 : R 2 = .ref 33) : pmE pg X pg_tyl pg_cl (d + 3) 152 0 (pm_ent (pm_max pg 152) [.ref 55, .int 5, .int x2, .int x3]) [] (cd f A R wr) (fun q => ∃ (A' : Nat → List Int32) (r : Int32), q = (some (.int r), cd f A' R wr, 0, 0) ∧ CI f A' R ∧ (∀ k : Nat, k ≠ 66 → A' k = A k) ∧ ((True ∧ True))) := by
  have bv := VV_b hv
  show pmE pg X pg_tyl pg_cl (d + 3) 152 0 [.ref 55, .int 5, .int x2, .int x3, pm_dead, pm_dead, pm_dead] [] (cd f A R wr) _
  refine pe_aload_n (j := 0) (by decide +kernel) rfl ?_
  refine pe_get (j := 22) (ci := 6) (n := 4) (by decide +kernel) (by decide +kernel) cd_o55 rfl ?_
  refine pe_iload_n (j := 1) (by decide +kernel) rfl ?_
  refine pe_iconstv (n := 1) (v := 1) (by decide +kernel) (by decide +kernel) ?_
  refine pe_isub (by decide +kernel) ?_
  refine pe_top (v := 4) (by decide +kernel) ?_
  refine pz_iald (by decide +kernel) cd_a66 (cl_66 hI) kz_4 (by omega) (by omega) (fun v2 ev2 => ?_)
  have rv2 : 0 ≤ v2.toInt ∧ v2.toInt ≤ 8 := ct_66 hI ev2
  refine pe_istore (j := 4) (ls' := [.ref 55, .int 5, .int x2, .int x3, .int v2, pm_dead, pm_dead]) (by decide +kernel) (Nat.le_of_ble_eq_true rfl) rfl ?_
  refine pe_iload_n (j := 1) (by decide +kernel) rfl ?_
  refine pe_iconstv (n := 2) (v := 2) (by decide +kernel) (by decide +kernel) ?_
  refine pz_icmp_lt (off := 29) (t := 41) (by decide +kernel) (by decide) rfl kz_5 kz_2 (fun h3 => by omega) (fun h3 => ?_)
  refine pe_aload_n (j := 0) (by decide +kernel) rfl ?_
  refine pe_get (j := 12) (ci := 6) (n := 0) (by decide +kernel) (by decide +kernel) cd_o55 rfl ?_
  refine pe_topV (v := .ref 33) (hR2) ?_
  refine pe_iload (j := 4) (by decide +kernel) rfl ?_
  refine pe_aload_n (j := 0) (by decide +kernel) rfl ?_
  refine pe_get (j := 22) (ci := 6) (n := 4) (by decide +kernel) (by decide +kernel) cd_o55 rfl ?_
  refine pe_iconstv (n := 0) (v := 0) (by decide +kernel) (by decide +kernel) ?_
  refine pz_iald (by decide +kernel) cd_a66 (cl_66 hI) kz_0 (by omega) (by omega) (fun v4 ev4 => ?_)
  have rv4 : 0 ≤ v4.toInt ∧ v4.toInt ≤ 8 := ct_66 hI ev4
  refine pz_callV (j := 59) (mj := 77) (by decide +kernel) (cll_V (args := [.int v4, .int v2]) (n := 2) (by decide +kernel) rfl rfl cd_o33 (by decide +kernel) (Nat.le_of_ble_eq_true rfl) (Nat.le_of_ble_eq_true rfl)) (CM_77 hX hI hv (hR0) (by omega) (by omega)) (fun q5a q5b q5c q5d hqq5 => ?_)
  obtain ⟨rq5, eq5, kq5⟩ := hqq5
  cases eq5
  refine ⟨rfl, rfl, ?_⟩
  show pmE pg X pg_tyl pg_cl (d + 3) 152 30 [.ref 55, .int 5, .int x2, .int x3, .int v2, pm_dead, pm_dead] [.int rq5] (cd f A R wr) _
  refine pe_aload_n (j := 0) (by decide +kernel) rfl ?_
  refine pe_get (j := 53) (ci := 6) (n := 2) (by decide +kernel) (by decide +kernel) cd_o55 rfl ?_
  have lw7 := zi_lo rq5
  have uw7 := zi_hi rq5
  have lw8 := zi_lo (f 882)
  have uw8 := zi_hi (f 882)
  refine pz_icmp_lt (off := 7) (t := 41) (by decide +kernel) (by decide) rfl rfl rfl (fun h6 => ?_) (fun h6 => ?_)
  · skip
    refine pe_iconstv (n := 0) (v := 0) (by decide +kernel) (by decide +kernel) ?_
    refine pe_istore (j := 5) (ls' := [.ref 55, .int 5, .int x2, .int x3, .int v2, .int 0, pm_dead]) (by decide +kernel) (Nat.le_of_ble_eq_true rfl) rfl ?_
    refine pe_iload_n (j := 1) (by decide +kernel) rfl ?_
    refine pe_iload_n (j := 3) (by decide +kernel) rfl ?_
    have lw10 := zi_lo x3
    have uw10 := zi_hi x3
    refine pz_icmp_ge (off := 9) (t := 55) (by decide +kernel) (by decide) rfl kz_5 rfl (fun h9 => ?_) (fun h9 => ?_)
    · skip
      refine pe_iload (j := 5) (by decide +kernel) rfl ?_
      exact pe_iret (by decide +kernel) rfl rfl ⟨A, 0, rfl, hI, (fun k n66 => rfl), ⟨trivial, trivial⟩⟩
    · skip
      refine pe_iload_n (j := 1) (by decide +kernel) rfl ?_
      refine pe_bipushv (n := 6) (v := 6) (by decide +kernel) (by decide +kernel) ?_
      refine pz_icmp_lt (off := 6) (t := 58) (by decide +kernel) (by decide) rfl kz_5 kz_6 (fun h11 => ?_) (fun h11 => by omega)
      refine pe_iconstv (n := 0) (v := 0) (by decide +kernel) (by decide +kernel) ?_
      refine pe_istore (j := 6) (ls' := [.ref 55, .int 5, .int x2, .int x3, .int v2, .int 0, .int 0]) (by decide +kernel) (Nat.le_of_ble_eq_true rfl) rfl ?_
      refine CL_152_1_61 hX hv (hR0) (hR2) (by omega) (by omega) (fun A12 y13 y14 hIy15 hFA12 gy14 => ?_) 10 A 0 0 hI (fun k _ => rfl) (by decide +kernel) (by decide +kernel)
      refine pe_iload (j := 5) (by decide +kernel) rfl ?_
      exact pe_iret (by decide +kernel) rfl rfl ⟨A12, y13, rfl, hIy15, (fun k n66 => (hFA12 k n66)), ⟨trivial, trivial⟩⟩
  · skip
    refine pe_iconstv (n := 1) (v := 1) (by decide +kernel) (by decide +kernel) ?_
    refine pe_goto (off := 4) (t := 42) (by decide +kernel) (by decide) rfl ?_
    refine pe_istore (j := 5) (ls' := [.ref 55, .int 5, .int x2, .int x3, .int v2, .int 1, pm_dead]) (by decide +kernel) (Nat.le_of_ble_eq_true rfl) rfl ?_
    refine pe_iload_n (j := 1) (by decide +kernel) rfl ?_
    refine pe_iload_n (j := 3) (by decide +kernel) rfl ?_
    have lw17 := zi_lo x3
    have uw17 := zi_hi x3
    refine pz_icmp_ge (off := 9) (t := 55) (by decide +kernel) (by decide) rfl kz_5 rfl (fun h16 => ?_) (fun h16 => ?_)
    · skip
      refine pe_iload (j := 5) (by decide +kernel) rfl ?_
      exact pe_iret (by decide +kernel) rfl rfl ⟨A, 1, rfl, hI, (fun k n66 => rfl), ⟨trivial, trivial⟩⟩
    · skip
      refine pe_iload_n (j := 1) (by decide +kernel) rfl ?_
      refine pe_bipushv (n := 6) (v := 6) (by decide +kernel) (by decide +kernel) ?_
      refine pz_icmp_lt (off := 6) (t := 58) (by decide +kernel) (by decide) rfl kz_5 kz_6 (fun h18 => ?_) (fun h18 => by omega)
      refine pe_iconstv (n := 0) (v := 0) (by decide +kernel) (by decide +kernel) ?_
      refine pe_istore (j := 6) (ls' := [.ref 55, .int 5, .int x2, .int x3, .int v2, .int 1, .int 0]) (by decide +kernel) (Nat.le_of_ble_eq_true rfl) rfl ?_
      refine CL_152_1_61 hX hv (hR0) (hR2) (by omega) (by omega) (fun A19 y20 y21 hIy22 hFA19 gy21 => ?_) 10 A 1 0 hI (fun k _ => rfl) (by decide +kernel) (by decide +kernel)
      refine pe_iload (j := 5) (by decide +kernel) rfl ?_
      exact pe_iret (by decide +kernel) rfl rfl ⟨A19, y20, rfl, hIy22, (fun k n66 => (hFA19 k n66)), ⟨trivial, trivial⟩⟩
set_option maxRecDepth 100000 in
set_option maxHeartbeats 8000000 in
theorem CL_152_2_61 {X : pm_X} {d : Nat} {wr : pm_W} {Q : pm_R → Prop} {f : Nat → Int32} {A0 : Nat → List Int32} {R : Nat → Value} {x2 x3 x4 : Int32} {v : Nat} (hX : XO X) (hv : VV v) (hR0 : R 0 = .ref v) (hR2 : R 2 = .ref 33) (gx3 : (5 ≤ x3.toInt)) (gx4 : (0 ≤ x4.toInt ∧ x4.toInt ≤ 8)) (k_136_0 : ∀ (A' : Nat → List Int32) (y5 : Int32) (y6 : Int32), CI f A' R → (∀ k : Nat, k ≠ 66 → A' k = A0 k) → (0 ≤ y6.toInt ∧ y6.toInt ≤ 9) → pmE pg X pg_tyl pg_cl (d + 4) 152 136 [.ref 55, .int 4, .int x2, .int x3, .int x4, .int y5, .int y6] [] (cd f A' R wr) Q) : ∀ (m : Nat) (A : Nat → List Int32) (x5 : Int32) (x6 : Int32), CI f A R → (∀ k : Nat, k ≠ 66 → A k = A0 k) → (0 ≤ x6.toInt ∧ x6.toInt ≤ 9) → 9 - x6.toInt < (m : Int) → pmE pg X pg_tyl pg_cl (d + 4) 152 61 [.ref 55, .int 4, .int x2, .int x3, .int x4, .int x5, .int x6] [] (cd f A R wr) Q := by
  have bv := VV_b hv
  intro m
  induction m with
  | zero =>
    intro A x5 x6 hI hF gx6 hm
    exfalso
    have l0 := zi_lo x6
    have u0 := zi_hi x6
    omega
  | succ m ih =>
    intro A x5 x6 hI hF gx6 hm
    refine pe_iload (j := 6) (by decide +kernel) rfl ?_
    refine pe_aload_n (j := 0) (by decide +kernel) rfl ?_
    refine pe_get (j := 12) (ci := 6) (n := 0) (by decide +kernel) (by decide +kernel) cd_o55 rfl ?_
    refine pe_topV (v := .ref 33) (hR2) ?_
    refine pe_get (j := 28) (ci := 7) (n := 0) (by decide +kernel) (by decide +kernel) cd_o33 rfl ?_
    refine pe_topV (v := .ref v) (hR0) ?_
    refine pe_get (j := 70) (ci := 9) (n := 0) (by decide +kernel) (by decide +kernel) (cv_o hv) rfl ?_
    have hr_f_16v := cv_people hv hI
    refine pz_icmp_ge (off := 63) (t := 136) (by decide +kernel) (by decide) rfl rfl rfl (fun h1 => ?_) (fun h1 => ?_)
    · skip
      exact k_136_0 A x5 x6 hI (fun k n66 => (hF k n66)) (by omega)
    · skip
      refine pe_iload_n (j := 2) (by decide +kernel) rfl ?_
      refine pe_iload (j := 6) (by decide +kernel) rfl ?_
      refine pi_S (j := 73) (mj := 89) (by decide +kernel) (by decide +kernel) rfl ?_
      show pmE pg X pg_tyl pg_cl (d + 3) 89 0 [.int x2, .int x6] [] (cd f A R wr) _
      refine pe_iload_n (j := 0) (by decide +kernel) rfl ?_
      refine pe_iload_n (j := 1) (by decide +kernel) rfl ?_
      refine pw_shr (by decide +kernel) (fun z2 => ?_)
      refine pe_iconstv (n := 1) (v := 1) (by decide +kernel) (by decide +kernel) ?_
      refine pz_and1 (by decide +kernel) (fun z3 hz3 => ?_)
      refine pz_if_eq (off := 7) (t := 12) (by decide +kernel) (by decide) rfl rfl (fun h4 => ?_) (fun h4 => ?_)
      · skip
        refine pe_iconstv (n := 0) (v := 0) (by decide +kernel) (by decide +kernel) ?_
        refine pe_iret (by decide +kernel) rfl rfl ⟨rfl, rfl, ?_⟩
        show pmE pg X pg_tyl pg_cl (d + 4) 152 82 [.ref 55, .int 4, .int x2, .int x3, .int x4, .int x5, .int x6] [.int 0] (cd f A R wr) _
        refine pz_if_ne (off := 48) (t := 130) (by decide +kernel) (by decide) rfl kz_0 (fun h5 => by omega) (fun h5 => ?_)
        refine pe_aload_n (j := 0) (by decide +kernel) rfl ?_
        refine pe_get (j := 12) (ci := 6) (n := 0) (by decide +kernel) (by decide +kernel) cd_o55 rfl ?_
        refine pe_topV (v := .ref 33) (hR2) ?_
        refine pe_iload (j := 4) (by decide +kernel) rfl ?_
        refine pe_iload (j := 6) (by decide +kernel) rfl ?_
        refine pz_callV (j := 59) (mj := 77) (by decide +kernel) (cll_V (args := [.int x6, .int x4]) (n := 2) (by decide +kernel) rfl rfl cd_o33 (by decide +kernel) (Nat.le_of_ble_eq_true rfl) (Nat.le_of_ble_eq_true rfl)) (CM_77 hX hI hv (hR0) (by omega) (by omega)) (fun q6a q6b q6c q6d hqq6 => ?_)
        obtain ⟨rq6, eq6, kq6⟩ := hqq6
        cases eq6
        refine ⟨rfl, rfl, ?_⟩
        show pmE pg X pg_tyl pg_cl (d + 4) 152 96 [.ref 55, .int 4, .int x2, .int x3, .int x4, .int x5, .int x6] [.int rq6] (cd f A R wr) _
        refine pe_aload_n (j := 0) (by decide +kernel) rfl ?_
        refine pe_get (j := 53) (ci := 6) (n := 2) (by decide +kernel) (by decide +kernel) cd_o55 rfl ?_
        have lw8 := zi_lo rq6
        have uw8 := zi_hi rq6
        have lw9 := zi_lo (f 882)
        have uw9 := zi_hi (f 882)
        refine pz_icmp_lt (off := 30) (t := 130) (by decide +kernel) (by decide) rfl rfl rfl (fun h7 => ?_) (fun h7 => ?_)
        · skip
          refine pz_iinc (j := 6) (n := 1) (by decide +kernel) rfl rfl (by decide +kernel) (by omega) (by omega) (fun z10 hz10 => ?_)
          show pmE pg X pg_tyl pg_cl (d + 4) 152 133 [.ref 55, .int 4, .int x2, .int x3, .int x4, .int x5, .int z10] [] (cd f A R wr) _
          refine pe_goto (off := (-72)) (t := 61) (by decide +kernel) (by decide) rfl ?_
          exact ih A x5 z10 hI (fun k n66 => (hF k n66)) (by omega) (by omega)
        · skip
          refine pe_aload_n (j := 0) (by decide +kernel) rfl ?_
          refine pe_get (j := 22) (ci := 6) (n := 4) (by decide +kernel) (by decide +kernel) cd_o55 rfl ?_
          refine pe_iload_n (j := 1) (by decide +kernel) rfl ?_
          refine pe_iload (j := 6) (by decide +kernel) rfl ?_
          refine cz_st66 (by decide +kernel) hI kz_4 (by omega) (by omega) (by simp only [CT]; omega) (fun A11 eA11 hIA11 => ?_)
          refine pe_iload (j := 5) (by decide +kernel) rfl ?_
          refine pe_aload_n (j := 0) (by decide +kernel) rfl ?_
          refine pe_iload_n (j := 1) (by decide +kernel) rfl ?_
          refine pe_iconstv (n := 1) (v := 1) (by decide +kernel) (by decide +kernel) ?_
          refine pe_iadd (by decide +kernel) ?_
          refine pe_top (v := 5) (by decide +kernel) ?_
          refine pe_iload_n (j := 2) (by decide +kernel) rfl ?_
          refine pe_iconstv (n := 1) (v := 1) (by decide +kernel) (by decide +kernel) ?_
          refine pe_iload (j := 6) (by decide +kernel) rfl ?_
          refine pz_shl1 (by decide +kernel) rfl (by omega) (by omega) (fun z13 hz13 => ?_)
          refine pw_or (by decide +kernel) (fun z14 => ?_)
          refine pe_iload_n (j := 3) (by decide +kernel) rfl ?_
          refine pz_callS (j := 101) (mj := 152) (by decide +kernel) (by decide +kernel) rfl (CM_152_1 hX hIA11 hv (hR0) (hR2)) (fun q15a q15b q15c q15d hqq15 => ?_)
          obtain ⟨A16, rq15, eq15, hIq15, hFq15, kq15⟩ := hqq15
          cases eq15
          refine ⟨rfl, rfl, ?_⟩
          show pmE pg X pg_tyl pg_cl (d + 4) 152 127 [.ref 55, .int 4, .int x2, .int x3, .int x4, .int x5, .int x6] [.int rq15, .int x5] (cd f A16 R wr) _
          refine pw_add (by decide +kernel) (fun z17 => ?_)
          refine pe_istore (j := 5) (ls' := [.ref 55, .int 4, .int x2, .int x3, .int x4, .int z17, .int x6]) (by decide +kernel) (Nat.le_of_ble_eq_true rfl) rfl ?_
          refine pz_iinc (j := 6) (n := 1) (by decide +kernel) rfl rfl (by decide +kernel) (by omega) (by omega) (fun z18 hz18 => ?_)
          show pmE pg X pg_tyl pg_cl (d + 4) 152 133 [.ref 55, .int 4, .int x2, .int x3, .int x4, .int z17, .int z18] [] (cd f A16 R wr) _
          refine pe_goto (off := (-72)) (t := 61) (by decide +kernel) (by decide) rfl ?_
          exact ih A16 z17 z18 hIq15 (fun k n66 => ((hFq15 k n66)).trans ((upa_fr eA11 n66).trans ((hF k n66)))) (by omega) (by omega)
      · skip
        refine pe_iconstv (n := 1) (v := 1) (by decide +kernel) (by decide +kernel) ?_
        refine pe_goto (off := 4) (t := 13) (by decide +kernel) (by decide) rfl ?_
        refine pe_iret (by decide +kernel) rfl rfl ⟨rfl, rfl, ?_⟩
        show pmE pg X pg_tyl pg_cl (d + 4) 152 82 [.ref 55, .int 4, .int x2, .int x3, .int x4, .int x5, .int x6] [.int 1] (cd f A R wr) _
        refine pz_if_ne (off := 48) (t := 130) (by decide +kernel) (by decide) rfl kz_1 (fun h19 => ?_) (fun h19 => by omega)
        refine pz_iinc (j := 6) (n := 1) (by decide +kernel) rfl rfl (by decide +kernel) (by omega) (by omega) (fun z20 hz20 => ?_)
        show pmE pg X pg_tyl pg_cl (d + 4) 152 133 [.ref 55, .int 4, .int x2, .int x3, .int x4, .int x5, .int z20] [] (cd f A R wr) _
        refine pe_goto (off := (-72)) (t := 61) (by decide +kernel) (by decide) rfl ?_
        exact ih A x5 z20 hI (fun k n66 => (hF k n66)) (by omega) (by omega)
set_option maxRecDepth 100000 in
set_option maxHeartbeats 8000000 in
theorem CM_152_2 {X : pm_X} {d : Nat} {wr : pm_W} {f : Nat → Int32} {A : Nat → List Int32} {R : Nat → Value} {x2 x3 : Int32} {v : Nat} (hX : XO X) (hI : CI f A R) (hv : VV v) (hR0 : R 0 = .ref v) (hR2 : R 2 = .ref 33) : pmE pg X pg_tyl pg_cl (d + 4) 152 0 (pm_ent (pm_max pg 152) [.ref 55, .int 4, .int x2, .int x3]) [] (cd f A R wr) (fun q => ∃ (A' : Nat → List Int32) (r : Int32), q = (some (.int r), cd f A' R wr, 0, 0) ∧ CI f A' R ∧ (∀ k : Nat, k ≠ 66 → A' k = A k) ∧ ((True ∧ True))) := by
  have bv := VV_b hv
  show pmE pg X pg_tyl pg_cl (d + 4) 152 0 [.ref 55, .int 4, .int x2, .int x3, pm_dead, pm_dead, pm_dead] [] (cd f A R wr) _
  refine pe_aload_n (j := 0) (by decide +kernel) rfl ?_
  refine pe_get (j := 22) (ci := 6) (n := 4) (by decide +kernel) (by decide +kernel) cd_o55 rfl ?_
  refine pe_iload_n (j := 1) (by decide +kernel) rfl ?_
  refine pe_iconstv (n := 1) (v := 1) (by decide +kernel) (by decide +kernel) ?_
  refine pe_isub (by decide +kernel) ?_
  refine pe_top (v := 3) (by decide +kernel) ?_
  refine pz_iald (by decide +kernel) cd_a66 (cl_66 hI) kz_3 (by omega) (by omega) (fun v2 ev2 => ?_)
  have rv2 : 0 ≤ v2.toInt ∧ v2.toInt ≤ 8 := ct_66 hI ev2
  refine pe_istore (j := 4) (ls' := [.ref 55, .int 4, .int x2, .int x3, .int v2, pm_dead, pm_dead]) (by decide +kernel) (Nat.le_of_ble_eq_true rfl) rfl ?_
  refine pe_iload_n (j := 1) (by decide +kernel) rfl ?_
  refine pe_iconstv (n := 2) (v := 2) (by decide +kernel) (by decide +kernel) ?_
  refine pz_icmp_lt (off := 29) (t := 41) (by decide +kernel) (by decide) rfl kz_4 kz_2 (fun h3 => by omega) (fun h3 => ?_)
  refine pe_aload_n (j := 0) (by decide +kernel) rfl ?_
  refine pe_get (j := 12) (ci := 6) (n := 0) (by decide +kernel) (by decide +kernel) cd_o55 rfl ?_
  refine pe_topV (v := .ref 33) (hR2) ?_
  refine pe_iload (j := 4) (by decide +kernel) rfl ?_
  refine pe_aload_n (j := 0) (by decide +kernel) rfl ?_
  refine pe_get (j := 22) (ci := 6) (n := 4) (by decide +kernel) (by decide +kernel) cd_o55 rfl ?_
  refine pe_iconstv (n := 0) (v := 0) (by decide +kernel) (by decide +kernel) ?_
  refine pz_iald (by decide +kernel) cd_a66 (cl_66 hI) kz_0 (by omega) (by omega) (fun v4 ev4 => ?_)
  have rv4 : 0 ≤ v4.toInt ∧ v4.toInt ≤ 8 := ct_66 hI ev4
  refine pz_callV (j := 59) (mj := 77) (by decide +kernel) (cll_V (args := [.int v4, .int v2]) (n := 2) (by decide +kernel) rfl rfl cd_o33 (by decide +kernel) (Nat.le_of_ble_eq_true rfl) (Nat.le_of_ble_eq_true rfl)) (CM_77 hX hI hv (hR0) (by omega) (by omega)) (fun q5a q5b q5c q5d hqq5 => ?_)
  obtain ⟨rq5, eq5, kq5⟩ := hqq5
  cases eq5
  refine ⟨rfl, rfl, ?_⟩
  show pmE pg X pg_tyl pg_cl (d + 4) 152 30 [.ref 55, .int 4, .int x2, .int x3, .int v2, pm_dead, pm_dead] [.int rq5] (cd f A R wr) _
  refine pe_aload_n (j := 0) (by decide +kernel) rfl ?_
  refine pe_get (j := 53) (ci := 6) (n := 2) (by decide +kernel) (by decide +kernel) cd_o55 rfl ?_
  have lw7 := zi_lo rq5
  have uw7 := zi_hi rq5
  have lw8 := zi_lo (f 882)
  have uw8 := zi_hi (f 882)
  refine pz_icmp_lt (off := 7) (t := 41) (by decide +kernel) (by decide) rfl rfl rfl (fun h6 => ?_) (fun h6 => ?_)
  · skip
    refine pe_iconstv (n := 0) (v := 0) (by decide +kernel) (by decide +kernel) ?_
    refine pe_istore (j := 5) (ls' := [.ref 55, .int 4, .int x2, .int x3, .int v2, .int 0, pm_dead]) (by decide +kernel) (Nat.le_of_ble_eq_true rfl) rfl ?_
    refine pe_iload_n (j := 1) (by decide +kernel) rfl ?_
    refine pe_iload_n (j := 3) (by decide +kernel) rfl ?_
    have lw10 := zi_lo x3
    have uw10 := zi_hi x3
    refine pz_icmp_ge (off := 9) (t := 55) (by decide +kernel) (by decide) rfl kz_4 rfl (fun h9 => ?_) (fun h9 => ?_)
    · skip
      refine pe_iload (j := 5) (by decide +kernel) rfl ?_
      exact pe_iret (by decide +kernel) rfl rfl ⟨A, 0, rfl, hI, (fun k n66 => rfl), ⟨trivial, trivial⟩⟩
    · skip
      refine pe_iload_n (j := 1) (by decide +kernel) rfl ?_
      refine pe_bipushv (n := 6) (v := 6) (by decide +kernel) (by decide +kernel) ?_
      refine pz_icmp_lt (off := 6) (t := 58) (by decide +kernel) (by decide) rfl kz_4 kz_6 (fun h11 => ?_) (fun h11 => by omega)
      refine pe_iconstv (n := 0) (v := 0) (by decide +kernel) (by decide +kernel) ?_
      refine pe_istore (j := 6) (ls' := [.ref 55, .int 4, .int x2, .int x3, .int v2, .int 0, .int 0]) (by decide +kernel) (Nat.le_of_ble_eq_true rfl) rfl ?_
      refine CL_152_2_61 hX hv (hR0) (hR2) (by omega) (by omega) (fun A12 y13 y14 hIy15 hFA12 gy14 => ?_) 10 A 0 0 hI (fun k _ => rfl) (by decide +kernel) (by decide +kernel)
      refine pe_iload (j := 5) (by decide +kernel) rfl ?_
      exact pe_iret (by decide +kernel) rfl rfl ⟨A12, y13, rfl, hIy15, (fun k n66 => (hFA12 k n66)), ⟨trivial, trivial⟩⟩
  · skip
    refine pe_iconstv (n := 1) (v := 1) (by decide +kernel) (by decide +kernel) ?_
    refine pe_goto (off := 4) (t := 42) (by decide +kernel) (by decide) rfl ?_
    refine pe_istore (j := 5) (ls' := [.ref 55, .int 4, .int x2, .int x3, .int v2, .int 1, pm_dead]) (by decide +kernel) (Nat.le_of_ble_eq_true rfl) rfl ?_
    refine pe_iload_n (j := 1) (by decide +kernel) rfl ?_
    refine pe_iload_n (j := 3) (by decide +kernel) rfl ?_
    have lw17 := zi_lo x3
    have uw17 := zi_hi x3
    refine pz_icmp_ge (off := 9) (t := 55) (by decide +kernel) (by decide) rfl kz_4 rfl (fun h16 => ?_) (fun h16 => ?_)
    · skip
      refine pe_iload (j := 5) (by decide +kernel) rfl ?_
      exact pe_iret (by decide +kernel) rfl rfl ⟨A, 1, rfl, hI, (fun k n66 => rfl), ⟨trivial, trivial⟩⟩
    · skip
      refine pe_iload_n (j := 1) (by decide +kernel) rfl ?_
      refine pe_bipushv (n := 6) (v := 6) (by decide +kernel) (by decide +kernel) ?_
      refine pz_icmp_lt (off := 6) (t := 58) (by decide +kernel) (by decide) rfl kz_4 kz_6 (fun h18 => ?_) (fun h18 => by omega)
      refine pe_iconstv (n := 0) (v := 0) (by decide +kernel) (by decide +kernel) ?_
      refine pe_istore (j := 6) (ls' := [.ref 55, .int 4, .int x2, .int x3, .int v2, .int 1, .int 0]) (by decide +kernel) (Nat.le_of_ble_eq_true rfl) rfl ?_
      refine CL_152_2_61 hX hv (hR0) (hR2) (by omega) (by omega) (fun A19 y20 y21 hIy22 hFA19 gy21 => ?_) 10 A 1 0 hI (fun k _ => rfl) (by decide +kernel) (by decide +kernel)
      refine pe_iload (j := 5) (by decide +kernel) rfl ?_
      exact pe_iret (by decide +kernel) rfl rfl ⟨A19, y20, rfl, hIy22, (fun k n66 => (hFA19 k n66)), ⟨trivial, trivial⟩⟩
set_option maxRecDepth 100000 in
set_option maxHeartbeats 8000000 in
theorem CL_152_3_61 {X : pm_X} {d : Nat} {wr : pm_W} {Q : pm_R → Prop} {f : Nat → Int32} {A0 : Nat → List Int32} {R : Nat → Value} {x2 x3 x4 : Int32} {v : Nat} (hX : XO X) (hv : VV v) (hR0 : R 0 = .ref v) (hR2 : R 2 = .ref 33) (gx3 : (4 ≤ x3.toInt)) (gx4 : (0 ≤ x4.toInt ∧ x4.toInt ≤ 8)) (k_136_0 : ∀ (A' : Nat → List Int32) (y5 : Int32) (y6 : Int32), CI f A' R → (∀ k : Nat, k ≠ 66 → A' k = A0 k) → (0 ≤ y6.toInt ∧ y6.toInt ≤ 9) → pmE pg X pg_tyl pg_cl (d + 5) 152 136 [.ref 55, .int 3, .int x2, .int x3, .int x4, .int y5, .int y6] [] (cd f A' R wr) Q) : ∀ (m : Nat) (A : Nat → List Int32) (x5 : Int32) (x6 : Int32), CI f A R → (∀ k : Nat, k ≠ 66 → A k = A0 k) → (0 ≤ x6.toInt ∧ x6.toInt ≤ 9) → 9 - x6.toInt < (m : Int) → pmE pg X pg_tyl pg_cl (d + 5) 152 61 [.ref 55, .int 3, .int x2, .int x3, .int x4, .int x5, .int x6] [] (cd f A R wr) Q := by
  have bv := VV_b hv
  intro m
  induction m with
  | zero =>
    intro A x5 x6 hI hF gx6 hm
    exfalso
    have l0 := zi_lo x6
    have u0 := zi_hi x6
    omega
  | succ m ih =>
    intro A x5 x6 hI hF gx6 hm
    refine pe_iload (j := 6) (by decide +kernel) rfl ?_
    refine pe_aload_n (j := 0) (by decide +kernel) rfl ?_
    refine pe_get (j := 12) (ci := 6) (n := 0) (by decide +kernel) (by decide +kernel) cd_o55 rfl ?_
    refine pe_topV (v := .ref 33) (hR2) ?_
    refine pe_get (j := 28) (ci := 7) (n := 0) (by decide +kernel) (by decide +kernel) cd_o33 rfl ?_
    refine pe_topV (v := .ref v) (hR0) ?_
    refine pe_get (j := 70) (ci := 9) (n := 0) (by decide +kernel) (by decide +kernel) (cv_o hv) rfl ?_
    have hr_f_16v := cv_people hv hI
    refine pz_icmp_ge (off := 63) (t := 136) (by decide +kernel) (by decide) rfl rfl rfl (fun h1 => ?_) (fun h1 => ?_)
    · skip
      exact k_136_0 A x5 x6 hI (fun k n66 => (hF k n66)) (by omega)
    · skip
      refine pe_iload_n (j := 2) (by decide +kernel) rfl ?_
      refine pe_iload (j := 6) (by decide +kernel) rfl ?_
      refine pi_S (j := 73) (mj := 89) (by decide +kernel) (by decide +kernel) rfl ?_
      show pmE pg X pg_tyl pg_cl (d + 4) 89 0 [.int x2, .int x6] [] (cd f A R wr) _
      refine pe_iload_n (j := 0) (by decide +kernel) rfl ?_
      refine pe_iload_n (j := 1) (by decide +kernel) rfl ?_
      refine pw_shr (by decide +kernel) (fun z2 => ?_)
      refine pe_iconstv (n := 1) (v := 1) (by decide +kernel) (by decide +kernel) ?_
      refine pz_and1 (by decide +kernel) (fun z3 hz3 => ?_)
      refine pz_if_eq (off := 7) (t := 12) (by decide +kernel) (by decide) rfl rfl (fun h4 => ?_) (fun h4 => ?_)
      · skip
        refine pe_iconstv (n := 0) (v := 0) (by decide +kernel) (by decide +kernel) ?_
        refine pe_iret (by decide +kernel) rfl rfl ⟨rfl, rfl, ?_⟩
        show pmE pg X pg_tyl pg_cl (d + 5) 152 82 [.ref 55, .int 3, .int x2, .int x3, .int x4, .int x5, .int x6] [.int 0] (cd f A R wr) _
        refine pz_if_ne (off := 48) (t := 130) (by decide +kernel) (by decide) rfl kz_0 (fun h5 => by omega) (fun h5 => ?_)
        refine pe_aload_n (j := 0) (by decide +kernel) rfl ?_
        refine pe_get (j := 12) (ci := 6) (n := 0) (by decide +kernel) (by decide +kernel) cd_o55 rfl ?_
        refine pe_topV (v := .ref 33) (hR2) ?_
        refine pe_iload (j := 4) (by decide +kernel) rfl ?_
        refine pe_iload (j := 6) (by decide +kernel) rfl ?_
        refine pz_callV (j := 59) (mj := 77) (by decide +kernel) (cll_V (args := [.int x6, .int x4]) (n := 2) (by decide +kernel) rfl rfl cd_o33 (by decide +kernel) (Nat.le_of_ble_eq_true rfl) (Nat.le_of_ble_eq_true rfl)) (CM_77 hX hI hv (hR0) (by omega) (by omega)) (fun q6a q6b q6c q6d hqq6 => ?_)
        obtain ⟨rq6, eq6, kq6⟩ := hqq6
        cases eq6
        refine ⟨rfl, rfl, ?_⟩
        show pmE pg X pg_tyl pg_cl (d + 5) 152 96 [.ref 55, .int 3, .int x2, .int x3, .int x4, .int x5, .int x6] [.int rq6] (cd f A R wr) _
        refine pe_aload_n (j := 0) (by decide +kernel) rfl ?_
        refine pe_get (j := 53) (ci := 6) (n := 2) (by decide +kernel) (by decide +kernel) cd_o55 rfl ?_
        have lw8 := zi_lo rq6
        have uw8 := zi_hi rq6
        have lw9 := zi_lo (f 882)
        have uw9 := zi_hi (f 882)
        refine pz_icmp_lt (off := 30) (t := 130) (by decide +kernel) (by decide) rfl rfl rfl (fun h7 => ?_) (fun h7 => ?_)
        · skip
          refine pz_iinc (j := 6) (n := 1) (by decide +kernel) rfl rfl (by decide +kernel) (by omega) (by omega) (fun z10 hz10 => ?_)
          show pmE pg X pg_tyl pg_cl (d + 5) 152 133 [.ref 55, .int 3, .int x2, .int x3, .int x4, .int x5, .int z10] [] (cd f A R wr) _
          refine pe_goto (off := (-72)) (t := 61) (by decide +kernel) (by decide) rfl ?_
          exact ih A x5 z10 hI (fun k n66 => (hF k n66)) (by omega) (by omega)
        · skip
          refine pe_aload_n (j := 0) (by decide +kernel) rfl ?_
          refine pe_get (j := 22) (ci := 6) (n := 4) (by decide +kernel) (by decide +kernel) cd_o55 rfl ?_
          refine pe_iload_n (j := 1) (by decide +kernel) rfl ?_
          refine pe_iload (j := 6) (by decide +kernel) rfl ?_
          refine cz_st66 (by decide +kernel) hI kz_3 (by omega) (by omega) (by simp only [CT]; omega) (fun A11 eA11 hIA11 => ?_)
          refine pe_iload (j := 5) (by decide +kernel) rfl ?_
          refine pe_aload_n (j := 0) (by decide +kernel) rfl ?_
          refine pe_iload_n (j := 1) (by decide +kernel) rfl ?_
          refine pe_iconstv (n := 1) (v := 1) (by decide +kernel) (by decide +kernel) ?_
          refine pe_iadd (by decide +kernel) ?_
          refine pe_top (v := 4) (by decide +kernel) ?_
          refine pe_iload_n (j := 2) (by decide +kernel) rfl ?_
          refine pe_iconstv (n := 1) (v := 1) (by decide +kernel) (by decide +kernel) ?_
          refine pe_iload (j := 6) (by decide +kernel) rfl ?_
          refine pz_shl1 (by decide +kernel) rfl (by omega) (by omega) (fun z13 hz13 => ?_)
          refine pw_or (by decide +kernel) (fun z14 => ?_)
          refine pe_iload_n (j := 3) (by decide +kernel) rfl ?_
          refine pz_callS (j := 101) (mj := 152) (by decide +kernel) (by decide +kernel) rfl (CM_152_2 hX hIA11 hv (hR0) (hR2)) (fun q15a q15b q15c q15d hqq15 => ?_)
          obtain ⟨A16, rq15, eq15, hIq15, hFq15, kq15⟩ := hqq15
          cases eq15
          refine ⟨rfl, rfl, ?_⟩
          show pmE pg X pg_tyl pg_cl (d + 5) 152 127 [.ref 55, .int 3, .int x2, .int x3, .int x4, .int x5, .int x6] [.int rq15, .int x5] (cd f A16 R wr) _
          refine pw_add (by decide +kernel) (fun z17 => ?_)
          refine pe_istore (j := 5) (ls' := [.ref 55, .int 3, .int x2, .int x3, .int x4, .int z17, .int x6]) (by decide +kernel) (Nat.le_of_ble_eq_true rfl) rfl ?_
          refine pz_iinc (j := 6) (n := 1) (by decide +kernel) rfl rfl (by decide +kernel) (by omega) (by omega) (fun z18 hz18 => ?_)
          show pmE pg X pg_tyl pg_cl (d + 5) 152 133 [.ref 55, .int 3, .int x2, .int x3, .int x4, .int z17, .int z18] [] (cd f A16 R wr) _
          refine pe_goto (off := (-72)) (t := 61) (by decide +kernel) (by decide) rfl ?_
          exact ih A16 z17 z18 hIq15 (fun k n66 => ((hFq15 k n66)).trans ((upa_fr eA11 n66).trans ((hF k n66)))) (by omega) (by omega)
      · skip
        refine pe_iconstv (n := 1) (v := 1) (by decide +kernel) (by decide +kernel) ?_
        refine pe_goto (off := 4) (t := 13) (by decide +kernel) (by decide) rfl ?_
        refine pe_iret (by decide +kernel) rfl rfl ⟨rfl, rfl, ?_⟩
        show pmE pg X pg_tyl pg_cl (d + 5) 152 82 [.ref 55, .int 3, .int x2, .int x3, .int x4, .int x5, .int x6] [.int 1] (cd f A R wr) _
        refine pz_if_ne (off := 48) (t := 130) (by decide +kernel) (by decide) rfl kz_1 (fun h19 => ?_) (fun h19 => by omega)
        refine pz_iinc (j := 6) (n := 1) (by decide +kernel) rfl rfl (by decide +kernel) (by omega) (by omega) (fun z20 hz20 => ?_)
        show pmE pg X pg_tyl pg_cl (d + 5) 152 133 [.ref 55, .int 3, .int x2, .int x3, .int x4, .int x5, .int z20] [] (cd f A R wr) _
        refine pe_goto (off := (-72)) (t := 61) (by decide +kernel) (by decide) rfl ?_
        exact ih A x5 z20 hI (fun k n66 => (hF k n66)) (by omega) (by omega)
set_option maxRecDepth 100000 in
set_option maxHeartbeats 8000000 in
theorem CM_152_3 {X : pm_X} {d : Nat} {wr : pm_W} {f : Nat → Int32} {A : Nat → List Int32} {R : Nat → Value} {x2 x3 : Int32} {v : Nat} (hX : XO X) (hI : CI f A R) (hv : VV v) (hR0 : R 0 = .ref v) (hR2 : R 2 = .ref 33) : pmE pg X pg_tyl pg_cl (d + 5) 152 0 (pm_ent (pm_max pg 152) [.ref 55, .int 3, .int x2, .int x3]) [] (cd f A R wr) (fun q => ∃ (A' : Nat → List Int32) (r : Int32), q = (some (.int r), cd f A' R wr, 0, 0) ∧ CI f A' R ∧ (∀ k : Nat, k ≠ 66 → A' k = A k) ∧ ((True ∧ True))) := by
  have bv := VV_b hv
  show pmE pg X pg_tyl pg_cl (d + 5) 152 0 [.ref 55, .int 3, .int x2, .int x3, pm_dead, pm_dead, pm_dead] [] (cd f A R wr) _
  refine pe_aload_n (j := 0) (by decide +kernel) rfl ?_
  refine pe_get (j := 22) (ci := 6) (n := 4) (by decide +kernel) (by decide +kernel) cd_o55 rfl ?_
  refine pe_iload_n (j := 1) (by decide +kernel) rfl ?_
  refine pe_iconstv (n := 1) (v := 1) (by decide +kernel) (by decide +kernel) ?_
  refine pe_isub (by decide +kernel) ?_
  refine pe_top (v := 2) (by decide +kernel) ?_
  refine pz_iald (by decide +kernel) cd_a66 (cl_66 hI) kz_2 (by omega) (by omega) (fun v2 ev2 => ?_)
  have rv2 : 0 ≤ v2.toInt ∧ v2.toInt ≤ 8 := ct_66 hI ev2
  refine pe_istore (j := 4) (ls' := [.ref 55, .int 3, .int x2, .int x3, .int v2, pm_dead, pm_dead]) (by decide +kernel) (Nat.le_of_ble_eq_true rfl) rfl ?_
  refine pe_iload_n (j := 1) (by decide +kernel) rfl ?_
  refine pe_iconstv (n := 2) (v := 2) (by decide +kernel) (by decide +kernel) ?_
  refine pz_icmp_lt (off := 29) (t := 41) (by decide +kernel) (by decide) rfl kz_3 kz_2 (fun h3 => by omega) (fun h3 => ?_)
  refine pe_aload_n (j := 0) (by decide +kernel) rfl ?_
  refine pe_get (j := 12) (ci := 6) (n := 0) (by decide +kernel) (by decide +kernel) cd_o55 rfl ?_
  refine pe_topV (v := .ref 33) (hR2) ?_
  refine pe_iload (j := 4) (by decide +kernel) rfl ?_
  refine pe_aload_n (j := 0) (by decide +kernel) rfl ?_
  refine pe_get (j := 22) (ci := 6) (n := 4) (by decide +kernel) (by decide +kernel) cd_o55 rfl ?_
  refine pe_iconstv (n := 0) (v := 0) (by decide +kernel) (by decide +kernel) ?_
  refine pz_iald (by decide +kernel) cd_a66 (cl_66 hI) kz_0 (by omega) (by omega) (fun v4 ev4 => ?_)
  have rv4 : 0 ≤ v4.toInt ∧ v4.toInt ≤ 8 := ct_66 hI ev4
  refine pz_callV (j := 59) (mj := 77) (by decide +kernel) (cll_V (args := [.int v4, .int v2]) (n := 2) (by decide +kernel) rfl rfl cd_o33 (by decide +kernel) (Nat.le_of_ble_eq_true rfl) (Nat.le_of_ble_eq_true rfl)) (CM_77 hX hI hv (hR0) (by omega) (by omega)) (fun q5a q5b q5c q5d hqq5 => ?_)
  obtain ⟨rq5, eq5, kq5⟩ := hqq5
  cases eq5
  refine ⟨rfl, rfl, ?_⟩
  show pmE pg X pg_tyl pg_cl (d + 5) 152 30 [.ref 55, .int 3, .int x2, .int x3, .int v2, pm_dead, pm_dead] [.int rq5] (cd f A R wr) _
  refine pe_aload_n (j := 0) (by decide +kernel) rfl ?_
  refine pe_get (j := 53) (ci := 6) (n := 2) (by decide +kernel) (by decide +kernel) cd_o55 rfl ?_
  have lw7 := zi_lo rq5
  have uw7 := zi_hi rq5
  have lw8 := zi_lo (f 882)
  have uw8 := zi_hi (f 882)
  refine pz_icmp_lt (off := 7) (t := 41) (by decide +kernel) (by decide) rfl rfl rfl (fun h6 => ?_) (fun h6 => ?_)
  · skip
    refine pe_iconstv (n := 0) (v := 0) (by decide +kernel) (by decide +kernel) ?_
    refine pe_istore (j := 5) (ls' := [.ref 55, .int 3, .int x2, .int x3, .int v2, .int 0, pm_dead]) (by decide +kernel) (Nat.le_of_ble_eq_true rfl) rfl ?_
    refine pe_iload_n (j := 1) (by decide +kernel) rfl ?_
    refine pe_iload_n (j := 3) (by decide +kernel) rfl ?_
    have lw10 := zi_lo x3
    have uw10 := zi_hi x3
    refine pz_icmp_ge (off := 9) (t := 55) (by decide +kernel) (by decide) rfl kz_3 rfl (fun h9 => ?_) (fun h9 => ?_)
    · skip
      refine pe_iload (j := 5) (by decide +kernel) rfl ?_
      exact pe_iret (by decide +kernel) rfl rfl ⟨A, 0, rfl, hI, (fun k n66 => rfl), ⟨trivial, trivial⟩⟩
    · skip
      refine pe_iload_n (j := 1) (by decide +kernel) rfl ?_
      refine pe_bipushv (n := 6) (v := 6) (by decide +kernel) (by decide +kernel) ?_
      refine pz_icmp_lt (off := 6) (t := 58) (by decide +kernel) (by decide) rfl kz_3 kz_6 (fun h11 => ?_) (fun h11 => by omega)
      refine pe_iconstv (n := 0) (v := 0) (by decide +kernel) (by decide +kernel) ?_
      refine pe_istore (j := 6) (ls' := [.ref 55, .int 3, .int x2, .int x3, .int v2, .int 0, .int 0]) (by decide +kernel) (Nat.le_of_ble_eq_true rfl) rfl ?_
      refine CL_152_3_61 hX hv (hR0) (hR2) (by omega) (by omega) (fun A12 y13 y14 hIy15 hFA12 gy14 => ?_) 10 A 0 0 hI (fun k _ => rfl) (by decide +kernel) (by decide +kernel)
      refine pe_iload (j := 5) (by decide +kernel) rfl ?_
      exact pe_iret (by decide +kernel) rfl rfl ⟨A12, y13, rfl, hIy15, (fun k n66 => (hFA12 k n66)), ⟨trivial, trivial⟩⟩
  · skip
    refine pe_iconstv (n := 1) (v := 1) (by decide +kernel) (by decide +kernel) ?_
    refine pe_goto (off := 4) (t := 42) (by decide +kernel) (by decide) rfl ?_
    refine pe_istore (j := 5) (ls' := [.ref 55, .int 3, .int x2, .int x3, .int v2, .int 1, pm_dead]) (by decide +kernel) (Nat.le_of_ble_eq_true rfl) rfl ?_
    refine pe_iload_n (j := 1) (by decide +kernel) rfl ?_
    refine pe_iload_n (j := 3) (by decide +kernel) rfl ?_
    have lw17 := zi_lo x3
    have uw17 := zi_hi x3
    refine pz_icmp_ge (off := 9) (t := 55) (by decide +kernel) (by decide) rfl kz_3 rfl (fun h16 => ?_) (fun h16 => ?_)
    · skip
      refine pe_iload (j := 5) (by decide +kernel) rfl ?_
      exact pe_iret (by decide +kernel) rfl rfl ⟨A, 1, rfl, hI, (fun k n66 => rfl), ⟨trivial, trivial⟩⟩
    · skip
      refine pe_iload_n (j := 1) (by decide +kernel) rfl ?_
      refine pe_bipushv (n := 6) (v := 6) (by decide +kernel) (by decide +kernel) ?_
      refine pz_icmp_lt (off := 6) (t := 58) (by decide +kernel) (by decide) rfl kz_3 kz_6 (fun h18 => ?_) (fun h18 => by omega)
      refine pe_iconstv (n := 0) (v := 0) (by decide +kernel) (by decide +kernel) ?_
      refine pe_istore (j := 6) (ls' := [.ref 55, .int 3, .int x2, .int x3, .int v2, .int 1, .int 0]) (by decide +kernel) (Nat.le_of_ble_eq_true rfl) rfl ?_
      refine CL_152_3_61 hX hv (hR0) (hR2) (by omega) (by omega) (fun A19 y20 y21 hIy22 hFA19 gy21 => ?_) 10 A 1 0 hI (fun k _ => rfl) (by decide +kernel) (by decide +kernel)
      refine pe_iload (j := 5) (by decide +kernel) rfl ?_
      exact pe_iret (by decide +kernel) rfl rfl ⟨A19, y20, rfl, hIy22, (fun k n66 => (hFA19 k n66)), ⟨trivial, trivial⟩⟩
end
