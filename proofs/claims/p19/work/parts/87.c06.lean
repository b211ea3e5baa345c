section
set_option maxRecDepth 100000 in
set_option maxHeartbeats 8000000 in
theorem CL_161_23 {X : pm_X} {d : Nat} {wr : pm_W} {Q : pm_R → Prop} {f : Nat → Int32} {A0 : Nat → List Int32} {R : Nat → Value} {x1 x2 x3 : Int32} {v : Nat} (hX : XO X) (hv : VV v) (hR3 : R 3 = .ref v) (gx1 : (0 ≤ x1.toInt ∧ x1.toInt ≤ 8)) (gx2 : (0 ≤ x2.toInt ∧ x2.toInt ≤ 8)) (gx3 : (0 ≤ x3.toInt ∧ x3.toInt ≤ 8)) (k_62_0 : ∀ (A' : Nat → List Int32) (y4 : Int32), CI f A' R → (∀ k : Nat, k ≠ 80 → A' k = A0 k) → (0 ≤ y4.toInt ∧ y4.toInt ≤ 9) → pmE pg X pg_tyl pg_cl (d + 3) 161 62 [.ref 68, .int x1, .int x2, .int x3, .int y4] [] (cd f A' R wr) Q) : ∀ (m : Nat) (A : Nat → List Int32) (x4 : Int32), CI f A R → (∀ k : Nat, k ≠ 80 → A k = A0 k) → (0 ≤ x4.toInt ∧ x4.toInt ≤ 9) → 9 - x4.toInt < (m : Int) → pmE pg X pg_tyl pg_cl (d + 3) 161 23 [.ref 68, .int x1, .int x2, .int x3, .int x4] [] (cd f A R wr) Q := by
  have bv := VV_b hv
  intro m
  induction m with
  | zero =>
    intro A x4 hI hF gx4 hm
    exfalso
    have l0 := zi_lo x4
    have u0 := zi_hi x4
    omega
  | succ m ih =>
    intro A x4 hI hF gx4 hm
    refine pe_iload (j := 4) (by decide +kernel) rfl ?_
    refine pe_aload_n (j := 0) (by decide +kernel) rfl ?_
    refine pe_get (j := 12) (ci := 10) (n := 0) (by decide +kernel) (by decide +kernel) cd_o68 rfl ?_
    refine pe_topV (v := .ref v) (hR3) ?_
    refine pe_get (j := 49) (ci := 9) (n := 0) (by decide +kernel) (by decide +kernel) (cv_o hv) rfl ?_
    have hr_f_16v := cv_people hv hI
    refine pz_icmp_ge (off := 30) (t := 62) (by decide +kernel) (by decide) rfl rfl rfl (fun h1 => ?_) (fun h1 => ?_)
    · skip
      exact k_62_0 A x4 hI (fun k n80 => (hF k n80)) (by omega)
    · skip
      refine pe_aload_n (j := 0) (by decide +kernel) rfl ?_
      refine pe_get (j := 38) (ci := 10) (n := 6) (by decide +kernel) (by decide +kernel) cd_o68 rfl ?_
      refine pe_iload_n (j := 3) (by decide +kernel) rfl ?_
      refine pe_iload (j := 4) (by decide +kernel) rfl ?_
      refine pe_aload_n (j := 0) (by decide +kernel) rfl ?_
      refine pe_get (j := 18) (ci := 10) (n := 1) (by decide +kernel) (by decide +kernel) cd_o68 rfl ?_
      refine pe_iload_n (j := 3) (by decide +kernel) rfl ?_
      refine pe_iload (j := 4) (by decide +kernel) rfl ?_
      refine pi_S (j := 53) (mj := 52) (by decide +kernel) (by decide +kernel) rfl ?_
      show pmE pg X pg_tyl pg_cl (d + 2) 52 0 [.int x3, .int x4] [] (cd f A R wr) _
      refine pe_iload_n (j := 0) (by decide +kernel) rfl ?_
      refine pe_bipushv (n := 9) (v := 9) (by decide +kernel) (by decide +kernel) ?_
      refine pz_mul (by decide +kernel) rfl kz_9 (by omega) (by omega) (fun z2 hz2 => ?_)
      refine pe_iload_n (j := 1) (by decide +kernel) rfl ?_
      refine pz_add (by decide +kernel) hz2 rfl (by omega) (by omega) (fun z3 hz3 => ?_)
      clear hz2
      refine pe_iret (by decide +kernel) rfl rfl ⟨rfl, rfl, ?_⟩
      show pmE pg X pg_tyl pg_cl (d + 3) 161 52 [.ref 68, .int x1, .int x2, .int x3, .int x4] [.int z3, .ref 74, .int x4, .int x3, .ref 79] (cd f A R wr) _
      refine pz_iald (by decide +kernel) cd_a74 (cl_74 hI) hz3 (by omega) (by omega) (fun v4 ev4 => ?_)
      rw [show A 74 = A0 74 from (hF 74 (by decide))] at ev4
      clear hz3
      refine pi_V (j := 72) (mj := 163) (by decide +kernel) (cll_V (args := [.int v4, .int x4, .int x3]) (n := 3) (by decide +kernel) rfl rfl cd_o79 (by decide +kernel) (Nat.le_of_ble_eq_true rfl) (Nat.le_of_ble_eq_true rfl)) ?_
      show pmE pg X pg_tyl pg_cl (d + 2) 163 0 [.ref 79, .int x3, .int x4, .int v4] [] (cd f A R wr) _
      refine pe_aload_n (j := 0) (by decide +kernel) rfl ?_
      refine pe_get (j := 11) (ci := 0) (n := 0) (by decide +kernel) (by decide +kernel) cd_o79 rfl ?_
      refine pe_iload_n (j := 1) (by decide +kernel) rfl ?_
      refine pe_bipushv (n := 12) (v := 12) (by decide +kernel) (by decide +kernel) ?_
      refine pz_mul (by decide +kernel) rfl kz_12 (by omega) (by omega) (fun z5 hz5 => ?_)
      refine pe_iload_n (j := 2) (by decide +kernel) rfl ?_
      refine pz_add (by decide +kernel) hz5 rfl (by omega) (by omega) (fun z6 hz6 => ?_)
      clear hz5
      refine pe_iload_n (j := 3) (by decide +kernel) rfl ?_
      refine cz_st80 (by decide +kernel) hI hz6 (by omega) (by omega) (fun A7 eA7 hIA7 => ?_)
      refine pe_vret (by decide +kernel) rfl ⟨rfl, rfl, ?_⟩
      show pmE pg X pg_tyl pg_cl (d + 3) 161 56 [.ref 68, .int x1, .int x2, .int x3, .int x4] [] (cd f A7 R wr) _
      refine pz_iinc (j := 4) (n := 1) (by decide +kernel) rfl rfl (by decide +kernel) (by omega) (by omega) (fun z8 hz8 => ?_)
      show pmE pg X pg_tyl pg_cl (d + 3) 161 59 [.ref 68, .int x1, .int x2, .int x3, .int z8] [] (cd f A7 R wr) _
      refine pe_goto (off := (-36)) (t := 23) (by decide +kernel) (by decide) rfl ?_
      exact ih A7 z8 hIA7 (fun k n80 => (upa_fr eA7 n80).trans ((hF k n80))) (by omega) (by omega)
set_option maxRecDepth 100000 in
set_option maxHeartbeats 8000000 in
theorem CL_161_9 {X : pm_X} {d : Nat} {wr : pm_W} {Q : pm_R → Prop} {f : Nat → Int32} {A0 : Nat → List Int32} {R : Nat → Value} {x1 x2 : Int32} {v : Nat} (hX : XO X) (hv : VV v) (hR3 : R 3 = .ref v) (gx1 : (0 ≤ x1.toInt ∧ x1.toInt ≤ 8)) (gx2 : (0 ≤ x2.toInt ∧ x2.toInt ≤ 8)) (k_68_0 : ∀ (A' : Nat → List Int32) (y3 : Int32) (v4 : Value), CI f A' R → (∀ k : Nat, k ≠ 80 → A' k = A0 k) → (0 ≤ y3.toInt ∧ y3.toInt ≤ 9) → pmE pg X pg_tyl pg_cl (d + 3) 161 68 [.ref 68, .int x1, .int x2, .int y3, v4] [] (cd f A' R wr) Q) : ∀ (m : Nat) (A : Nat → List Int32) (x3 : Int32) (u4 : Value), CI f A R → (∀ k : Nat, k ≠ 80 → A k = A0 k) → (0 ≤ x3.toInt ∧ x3.toInt ≤ 9) → 9 - x3.toInt < (m : Int) → pmE pg X pg_tyl pg_cl (d + 3) 161 9 [.ref 68, .int x1, .int x2, .int x3, u4] [] (cd f A R wr) Q := by
  have bv := VV_b hv
  intro m
  induction m with
  | zero =>
    intro A x3 u4 hI hF gx3 hm
    exfalso
    have l0 := zi_lo x3
    have u0 := zi_hi x3
    omega
  | succ m ih =>
    intro A x3 u4 hI hF gx3 hm
    refine pe_iload_n (j := 3) (by decide +kernel) rfl ?_
    refine pe_aload_n (j := 0) (by decide +kernel) rfl ?_
    refine pe_get (j := 12) (ci := 10) (n := 0) (by decide +kernel) (by decide +kernel) cd_o68 rfl ?_
    refine pe_topV (v := .ref v) (hR3) ?_
    refine pe_get (j := 49) (ci := 9) (n := 0) (by decide +kernel) (by decide +kernel) (cv_o hv) rfl ?_
    have hr_f_16v := cv_people hv hI
    refine pz_icmp_ge (off := 51) (t := 68) (by decide +kernel) (by decide) rfl rfl rfl (fun h1 => ?_) (fun h1 => ?_)
    · skip
      exact k_68_0 A x3 (u4) hI (fun k n80 => (hF k n80)) (by omega)
    · skip
      refine pe_iconstv (n := 0) (v := 0) (by decide +kernel) (by decide +kernel) ?_
      refine pe_istore (j := 4) (ls' := [.ref 68, .int x1, .int x2, .int x3, .int 0]) (by decide +kernel) (Nat.le_of_ble_eq_true rfl) rfl ?_
      refine CL_161_23 hX hv (hR3) (by omega) (by omega) (by omega) (fun A2 y3 hIy4 hFA2 gy3 => ?_) 10 A 0 hI (fun k _ => rfl) (by decide +kernel) (by decide +kernel)
      refine pz_iinc (j := 3) (n := 1) (by decide +kernel) rfl rfl (by decide +kernel) (by omega) (by omega) (fun z5 hz5 => ?_)
      show pmE pg X pg_tyl pg_cl (d + 3) 161 65 [.ref 68, .int x1, .int x2, .int z5, .int y3] [] (cd f A2 R wr) _
      refine pe_goto (off := (-56)) (t := 9) (by decide +kernel) (by decide) rfl ?_
      exact ih A2 z5 (.int y3) hIy4 (fun k n80 => ((hFA2 k n80)).trans ((hF k n80))) (by omega) (by omega)
set_option maxRecDepth 100000 in
set_option maxHeartbeats 8000000 in
theorem CM_161 {X : pm_X} {d : Nat} {wr : pm_W} {f : Nat → Int32} {A : Nat → List Int32} {R : Nat → Value} {x1 x2 : Int32} {v : Nat} (hX : XO X) (hI : CI f A R) (hv : VV v) (hR3 : R 3 = .ref v) (gx1 : (0 ≤ x1.toInt ∧ x1.toInt ≤ 8)) (gx2 : (0 ≤ x2.toInt ∧ x2.toInt ≤ 8)) : pmE pg X pg_tyl pg_cl (d + 3) 161 0 (pm_ent (pm_max pg 161) [.ref 68, .int x1, .int x2]) [] (cd f A R wr) (fun q => ∃ (A' : Nat → List Int32) (r : Int32), q = (some (.int r), cd f A' R wr, 0, 0) ∧ CI f A' R ∧ (∀ k : Nat, k ≠ 80 → k ≠ 81 → k ≠ 82 → A' k = A k) ∧ ((True ∧ True))) := by
  have bv := VV_b hv
  show pmE pg X pg_tyl pg_cl (d + 3) 161 0 [.ref 68, .int x1, .int x2, pm_dead, pm_dead] [] (cd f A R wr) _
  refine pe_aload_n (j := 0) (by decide +kernel) rfl ?_
  refine pe_get (j := 38) (ci := 10) (n := 6) (by decide +kernel) (by decide +kernel) cd_o68 rfl ?_
  refine pi_V (j := 69) (mj := 162) (by decide +kernel) (cll_V (args := []) (n := 0) (by decide +kernel) rfl rfl cd_o79 (by decide +kernel) (Nat.le_of_ble_eq_true rfl) (Nat.le_of_ble_eq_true rfl)) ?_
  show pmE pg X pg_tyl pg_cl (d + 2) 162 0 [.ref 79] [] (cd f A R wr) _
  refine pe_aload_n (j := 0) (by decide +kernel) rfl ?_
  refine pe_get (j := 11) (ci := 0) (n := 0) (by decide +kernel) (by decide +kernel) cd_o79 rfl ?_
  refine pe_iconstv (n := 0) (v := 0) (by decide +kernel) (by decide +kernel) ?_
  refine cz_fill (j := 21) (k := 80) (n := 144) (by decide +kernel) (by decide +kernel) rfl cd_a80 (fun _ => cd_s80) hI (cl_80 hI) (by decide +kernel) (ct_no (by decide +kernel)) (fun A1 eA1 hIA1 => ?_)
  refine pe_vret (by decide +kernel) rfl ⟨rfl, rfl, ?_⟩
  show pmE pg X pg_tyl pg_cl (d + 3) 161 7 [.ref 68, .int x1, .int x2, pm_dead, pm_dead] [] (cd f A1 R wr) _
  refine pe_iconstv (n := 0) (v := 0) (by decide +kernel) (by decide +kernel) ?_
  refine pe_istore_n (j := 3) (ls' := [.ref 68, .int x1, .int x2, .int 0, pm_dead]) (by decide +kernel) (Nat.le_of_ble_eq_true rfl) rfl ?_
  refine CL_161_9 hX hv (hR3) (by omega) (by omega) (fun A2 y3 u4 hIy5 hFA2 gy3 => ?_) 10 A1 0 (pm_dead) hIA1 (fun k _ => rfl) (by decide +kernel) (by decide +kernel)
  refine pe_aload_n (j := 0) (by decide +kernel) rfl ?_
  refine pe_get (j := 38) (ci := 10) (n := 6) (by decide +kernel) (by decide +kernel) cd_o68 rfl ?_
  refine pe_iload_n (j := 1) (by decide +kernel) rfl ?_
  refine pe_iload_n (j := 2) (by decide +kernel) rfl ?_
  refine pz_callV (j := 76) (mj := 164) (by decide +kernel) (cll_V (args := [.int x2, .int x1]) (n := 2) (by decide +kernel) rfl rfl cd_o79 (by decide +kernel) (Nat.le_of_ble_eq_true rfl) (Nat.le_of_ble_eq_true rfl)) (CM_164 hX hIy5 (by omega) (by omega)) (fun q6a q6b q6c q6d hqq6 => ?_)
  obtain ⟨A7, rq6, eq6, hIq6, hFq6, kq6⟩ := hqq6
  cases eq6
  refine ⟨rfl, rfl, ?_⟩
  show pmE pg X pg_tyl pg_cl (d + 3) 161 77 [.ref 68, .int x1, .int x2, .int y3, u4] [.int rq6] (cd f A7 R wr) _
  exact pe_iret (by decide +kernel) rfl rfl ⟨A7, rq6, rfl, hIq6, (fun k n80 n81 n82 => ((hFq6 k n80 n81 n82)).trans (((hFA2 k n80)).trans (upa_fr eA1 n80))), ⟨trivial, trivial⟩⟩
set_option maxRecDepth 100000 in
set_option maxHeartbeats 8000000 in
theorem CL_194_20 {X : pm_X} {d : Nat} {wr : pm_W} {Q : pm_R → Prop} {f : Nat → Int32} {A0 : Nat → List Int32} {R : Nat → Value} {x3 : Int32} {v : Nat} (hX : XO X) (hv : VV v) (hR3 : R 3 = .ref v) (gx3 : (0 ≤ x3.toInt ∧ x3.toInt ≤ 8)) (k_84_0 : ∀ (A' : Nat → List Int32) (y1 : Int32) (y2 : Int32) (y4 : Int32) (v5 : Value), CI f A' R → (∀ k : Nat, k ≠ 80 → k ≠ 81 → k ≠ 82 → A' k = A0 k) → ((-1) ≤ y1.toInt) → (0 ≤ y4.toInt ∧ y4.toInt ≤ 9) → pmE pg X pg_tyl pg_cl (d + 4) 194 84 [.ref 68, .int y1, .int y2, .int x3, .int y4, v5] [] (cd f A' R wr) Q) : ∀ (m : Nat) (A : Nat → List Int32) (x1 : Int32) (x2 : Int32) (x4 : Int32) (u5 : Value), CI f A R → (∀ k : Nat, k ≠ 80 → k ≠ 81 → k ≠ 82 → A k = A0 k) → ((-1) ≤ x1.toInt) → (0 ≤ x4.toInt ∧ x4.toInt ≤ 9) → 9 - x4.toInt < (m : Int) → pmE pg X pg_tyl pg_cl (d + 4) 194 20 [.ref 68, .int x1, .int x2, .int x3, .int x4, u5] [] (cd f A R wr) Q := by
  have bv := VV_b hv
  intro m
  induction m with
  | zero =>
    intro A x1 x2 x4 u5 hI hF gx1 gx4 hm
    exfalso
    have l0 := zi_lo x4
    have u0 := zi_hi x4
    omega
  | succ m ih =>
    intro A x1 x2 x4 u5 hI hF gx1 gx4 hm
    refine pe_iload (j := 4) (by decide +kernel) rfl ?_
    refine pe_aload_n (j := 0) (by decide +kernel) rfl ?_
    refine pe_get (j := 12) (ci := 10) (n := 0) (by decide +kernel) (by decide +kernel) cd_o68 rfl ?_
    refine pe_topV (v := .ref v) (hR3) ?_
    refine pe_get (j := 49) (ci := 9) (n := 0) (by decide +kernel) (by decide +kernel) (cv_o hv) rfl ?_
    have hr_f_16v := cv_people hv hI
    refine pz_icmp_ge (off := 55) (t := 84) (by decide +kernel) (by decide) rfl rfl rfl (fun h1 => ?_) (fun h1 => ?_)
    · skip
      exact k_84_0 A x1 x2 x4 (u5) hI (fun k n80 n81 n82 => (hF k n80 n81 n82)) (by omega) (by omega)
    · skip
      refine pe_iload_n (j := 3) (by decide +kernel) rfl ?_
      refine pe_iload (j := 4) (by decide +kernel) rfl ?_
      refine pz_icmp_ne (off := 7) (t := 42) (by decide +kernel) (by decide) rfl rfl rfl (fun h2 => ?_) (fun h2 => ?_)
      · skip
        refine pe_aload_n (j := 0) (by decide +kernel) rfl ?_
        refine pe_iload_n (j := 3) (by decide +kernel) rfl ?_
        refine pe_iload (j := 4) (by decide +kernel) rfl ?_
        refine pz_callV (j := 79) (mj := 161) (by decide +kernel) (cll_V (args := [.int x4, .int x3]) (n := 2) (by decide +kernel) rfl rfl cd_o68 (by decide +kernel) (Nat.le_of_ble_eq_true rfl) (Nat.le_of_ble_eq_true rfl)) (CM_161 hX hI hv (hR3) (by omega) (by omega)) (fun q3a q3b q3c q3d hqq3 => ?_)
        obtain ⟨A4, rq3, eq3, hIq3, hFq3, kq3⟩ := hqq3
        cases eq3
        refine ⟨rfl, rfl, ?_⟩
        show pmE pg X pg_tyl pg_cl (d + 4) 194 49 [.ref 68, .int x1, .int x2, .int x3, .int x4, u5] [.int rq3] (cd f A4 R wr) _
        refine pe_istore (j := 5) (ls' := [.ref 68, .int x1, .int x2, .int x3, .int x4, .int rq3]) (by decide +kernel) (Nat.le_of_ble_eq_true rfl) rfl ?_
        refine pe_iload_n (j := 3) (by decide +kernel) rfl ?_
        refine pe_iload (j := 4) (by decide +kernel) rfl ?_
        refine pz_icmp_eq (off := 24) (t := 78) (by decide +kernel) (by decide) rfl rfl rfl (fun h5 => ?_) (fun h5 => ?_)
        · skip
          refine pz_iinc (j := 4) (n := 1) (by decide +kernel) rfl rfl (by decide +kernel) (by omega) (by omega) (fun z6 hz6 => ?_)
          show pmE pg X pg_tyl pg_cl (d + 4) 194 81 [.ref 68, .int x1, .int x2, .int x3, .int z6, .int rq3] [] (cd f A4 R wr) _
          refine pe_goto (off := (-61)) (t := 20) (by decide +kernel) (by decide) rfl ?_
          exact ih A4 x1 x2 z6 (.int rq3) hIq3 (fun k n80 n81 n82 => ((hFq3 k n80 n81 n82)).trans ((hF k n80 n81 n82))) (by omega) (by omega) (by omega)
        · skip
          refine pe_iload_n (j := 1) (by decide +kernel) rfl ?_
          refine pe_iconstv (n := (-1)) (v := (-1)) (by decide +kernel) (by decide +kernel) ?_
          have lw8 := zi_lo x1
          have uw8 := zi_hi x1
          refine pz_icmp_eq (off := 9) (t := 68) (by decide +kernel) (by decide) rfl rfl kz_m1 (fun h7 => ?_) (fun h7 => ?_)
          · skip
            refine pe_iload_n (j := 3) (by decide +kernel) rfl ?_
            refine pe_iload (j := 4) (by decide +kernel) rfl ?_
            refine pi_S (j := 53) (mj := 52) (by decide +kernel) (by decide +kernel) rfl ?_
            show pmE pg X pg_tyl pg_cl (d + 3) 52 0 [.int x3, .int x4] [] (cd f A4 R wr) _
            refine pe_iload_n (j := 0) (by decide +kernel) rfl ?_
            refine pe_bipushv (n := 9) (v := 9) (by decide +kernel) (by decide +kernel) ?_
            refine pz_mul (by decide +kernel) rfl kz_9 (by omega) (by omega) (fun z9 hz9 => ?_)
            refine pe_iload_n (j := 1) (by decide +kernel) rfl ?_
            refine pz_add (by decide +kernel) hz9 rfl (by omega) (by omega) (fun z10 hz10 => ?_)
            clear hz9
            refine pe_iret (by decide +kernel) rfl rfl ⟨rfl, rfl, ?_⟩
            show pmE pg X pg_tyl pg_cl (d + 4) 194 74 [.ref 68, .int x1, .int x2, .int x3, .int x4, .int rq3] [.int z10] (cd f A4 R wr) _
            refine pe_istore_n (j := 1) (ls' := [.ref 68, .int z10, .int x2, .int x3, .int x4, .int rq3]) (by decide +kernel) (Nat.le_of_ble_eq_true rfl) rfl ?_
            refine pe_iload (j := 5) (by decide +kernel) rfl ?_
            refine pe_istore_n (j := 2) (ls' := [.ref 68, .int z10, .int rq3, .int x3, .int x4, .int rq3]) (by decide +kernel) (Nat.le_of_ble_eq_true rfl) rfl ?_
            refine pz_iinc (j := 4) (n := 1) (by decide +kernel) rfl rfl (by decide +kernel) (by omega) (by omega) (fun z11 hz11 => ?_)
            show pmE pg X pg_tyl pg_cl (d + 4) 194 81 [.ref 68, .int z10, .int rq3, .int x3, .int z11, .int rq3] [] (cd f A4 R wr) _
            refine pe_goto (off := (-61)) (t := 20) (by decide +kernel) (by decide) rfl ?_
            exact ih A4 z10 rq3 z11 (.int rq3) hIq3 (fun k n80 n81 n82 => ((hFq3 k n80 n81 n82)).trans ((hF k n80 n81 n82))) (by omega) (by omega) (by omega)
          · skip
            refine pe_iload (j := 5) (by decide +kernel) rfl ?_
            refine pe_iload_n (j := 2) (by decide +kernel) rfl ?_
            have lw13 := zi_lo rq3
            have uw13 := zi_hi rq3
            have lw14 := zi_lo x2
            have uw14 := zi_hi x2
            refine pz_icmp_ge (off := 13) (t := 78) (by decide +kernel) (by decide) rfl rfl rfl (fun h12 => ?_) (fun h12 => ?_)
            · skip
              refine pz_iinc (j := 4) (n := 1) (by decide +kernel) rfl rfl (by decide +kernel) (by omega) (by omega) (fun z15 hz15 => ?_)
              show pmE pg X pg_tyl pg_cl (d + 4) 194 81 [.ref 68, .int x1, .int x2, .int x3, .int z15, .int rq3] [] (cd f A4 R wr) _
              refine pe_goto (off := (-61)) (t := 20) (by decide +kernel) (by decide) rfl ?_
              exact ih A4 x1 x2 z15 (.int rq3) hIq3 (fun k n80 n81 n82 => ((hFq3 k n80 n81 n82)).trans ((hF k n80 n81 n82))) (by omega) (by omega) (by omega)
            · skip
              refine pe_iload_n (j := 3) (by decide +kernel) rfl ?_
              refine pe_iload (j := 4) (by decide +kernel) rfl ?_
              refine pi_S (j := 53) (mj := 52) (by decide +kernel) (by decide +kernel) rfl ?_
              show pmE pg X pg_tyl pg_cl (d + 3) 52 0 [.int x3, .int x4] [] (cd f A4 R wr) _
              refine pe_iload_n (j := 0) (by decide +kernel) rfl ?_
              refine pe_bipushv (n := 9) (v := 9) (by decide +kernel) (by decide +kernel) ?_
              refine pz_mul (by decide +kernel) rfl kz_9 (by omega) (by omega) (fun z16 hz16 => ?_)
              refine pe_iload_n (j := 1) (by decide +kernel) rfl ?_
              refine pz_add (by decide +kernel) hz16 rfl (by omega) (by omega) (fun z17 hz17 => ?_)
              clear hz16
              refine pe_iret (by decide +kernel) rfl rfl ⟨rfl, rfl, ?_⟩
              show pmE pg X pg_tyl pg_cl (d + 4) 194 74 [.ref 68, .int x1, .int x2, .int x3, .int x4, .int rq3] [.int z17] (cd f A4 R wr) _
              refine pe_istore_n (j := 1) (ls' := [.ref 68, .int z17, .int x2, .int x3, .int x4, .int rq3]) (by decide +kernel) (Nat.le_of_ble_eq_true rfl) rfl ?_
              refine pe_iload (j := 5) (by decide +kernel) rfl ?_
              refine pe_istore_n (j := 2) (ls' := [.ref 68, .int z17, .int rq3, .int x3, .int x4, .int rq3]) (by decide +kernel) (Nat.le_of_ble_eq_true rfl) rfl ?_
              refine pz_iinc (j := 4) (n := 1) (by decide +kernel) rfl rfl (by decide +kernel) (by omega) (by omega) (fun z18 hz18 => ?_)
              show pmE pg X pg_tyl pg_cl (d + 4) 194 81 [.ref 68, .int z17, .int rq3, .int x3, .int z18, .int rq3] [] (cd f A4 R wr) _
              refine pe_goto (off := (-61)) (t := 20) (by decide +kernel) (by decide) rfl ?_
              exact ih A4 z17 rq3 z18 (.int rq3) hIq3 (fun k n80 n81 n82 => ((hFq3 k n80 n81 n82)).trans ((hF k n80 n81 n82))) (by omega) (by omega) (by omega)
      · skip
        refine pe_iconstv (n := 0) (v := 0) (by decide +kernel) (by decide +kernel) ?_
        refine pe_goto (off := 10) (t := 49) (by decide +kernel) (by decide) rfl ?_
        refine pe_istore (j := 5) (ls' := [.ref 68, .int x1, .int x2, .int x3, .int x4, .int 0]) (by decide +kernel) (Nat.le_of_ble_eq_true rfl) rfl ?_
        refine pe_iload_n (j := 3) (by decide +kernel) rfl ?_
        refine pe_iload (j := 4) (by decide +kernel) rfl ?_
        refine pz_icmp_eq (off := 24) (t := 78) (by decide +kernel) (by decide) rfl rfl rfl (fun h19 => ?_) (fun h19 => ?_)
        · skip
          refine pz_iinc (j := 4) (n := 1) (by decide +kernel) rfl rfl (by decide +kernel) (by omega) (by omega) (fun z20 hz20 => ?_)
          show pmE pg X pg_tyl pg_cl (d + 4) 194 81 [.ref 68, .int x1, .int x2, .int x3, .int z20, .int 0] [] (cd f A R wr) _
          refine pe_goto (off := (-61)) (t := 20) (by decide +kernel) (by decide) rfl ?_
          exact ih A x1 x2 z20 (.int 0) hI (fun k n80 n81 n82 => (hF k n80 n81 n82)) (by omega) (by omega) (by omega)
        · skip
          refine pe_iload_n (j := 1) (by decide +kernel) rfl ?_
          refine pe_iconstv (n := (-1)) (v := (-1)) (by decide +kernel) (by decide +kernel) ?_
          have lw22 := zi_lo x1
          have uw22 := zi_hi x1
          refine pz_icmp_eq (off := 9) (t := 68) (by decide +kernel) (by decide) rfl rfl kz_m1 (fun h21 => ?_) (fun h21 => ?_)
          · skip
            refine pe_iload_n (j := 3) (by decide +kernel) rfl ?_
            refine pe_iload (j := 4) (by decide +kernel) rfl ?_
            refine pi_S (j := 53) (mj := 52) (by decide +kernel) (by decide +kernel) rfl ?_
            show pmE pg X pg_tyl pg_cl (d + 3) 52 0 [.int x3, .int x4] [] (cd f A R wr) _
            refine pe_iload_n (j := 0) (by decide +kernel) rfl ?_
            refine pe_bipushv (n := 9) (v := 9) (by decide +kernel) (by decide +kernel) ?_
            refine pz_mul (by decide +kernel) rfl kz_9 (by omega) (by omega) (fun z23 hz23 => ?_)
            refine pe_iload_n (j := 1) (by decide +kernel) rfl ?_
            refine pz_add (by decide +kernel) hz23 rfl (by omega) (by omega) (fun z24 hz24 => ?_)
            clear hz23
            refine pe_iret (by decide +kernel) rfl rfl ⟨rfl, rfl, ?_⟩
            show pmE pg X pg_tyl pg_cl (d + 4) 194 74 [.ref 68, .int x1, .int x2, .int x3, .int x4, .int 0] [.int z24] (cd f A R wr) _
            refine pe_istore_n (j := 1) (ls' := [.ref 68, .int z24, .int x2, .int x3, .int x4, .int 0]) (by decide +kernel) (Nat.le_of_ble_eq_true rfl) rfl ?_
            refine pe_iload (j := 5) (by decide +kernel) rfl ?_
            refine pe_istore_n (j := 2) (ls' := [.ref 68, .int z24, .int 0, .int x3, .int x4, .int 0]) (by decide +kernel) (Nat.le_of_ble_eq_true rfl) rfl ?_
            refine pz_iinc (j := 4) (n := 1) (by decide +kernel) rfl rfl (by decide +kernel) (by omega) (by omega) (fun z25 hz25 => ?_)
            show pmE pg X pg_tyl pg_cl (d + 4) 194 81 [.ref 68, .int z24, .int 0, .int x3, .int z25, .int 0] [] (cd f A R wr) _
            refine pe_goto (off := (-61)) (t := 20) (by decide +kernel) (by decide) rfl ?_
            exact ih A z24 0 z25 (.int 0) hI (fun k n80 n81 n82 => (hF k n80 n81 n82)) (by omega) (by omega) (by omega)
          · skip
            refine pe_iload (j := 5) (by decide +kernel) rfl ?_
            refine pe_iload_n (j := 2) (by decide +kernel) rfl ?_
            have lw27 := zi_lo x2
            have uw27 := zi_hi x2
            refine pz_icmp_ge (off := 13) (t := 78) (by decide +kernel) (by decide) rfl kz_0 rfl (fun h26 => ?_) (fun h26 => ?_)
            · skip
              refine pz_iinc (j := 4) (n := 1) (by decide +kernel) rfl rfl (by decide +kernel) (by omega) (by omega) (fun z28 hz28 => ?_)
              show pmE pg X pg_tyl pg_cl (d + 4) 194 81 [.ref 68, .int x1, .int x2, .int x3, .int z28, .int 0] [] (cd f A R wr) _
              refine pe_goto (off := (-61)) (t := 20) (by decide +kernel) (by decide) rfl ?_
              exact ih A x1 x2 z28 (.int 0) hI (fun k n80 n81 n82 => (hF k n80 n81 n82)) (by omega) (by omega) (by omega)
            · skip
              refine pe_iload_n (j := 3) (by decide +kernel) rfl ?_
              refine pe_iload (j := 4) (by decide +kernel) rfl ?_
              refine pi_S (j := 53) (mj := 52) (by decide +kernel) (by decide +kernel) rfl ?_
              show pmE pg X pg_tyl pg_cl (d + 3) 52 0 [.int x3, .int x4] [] (cd f A R wr) _
              refine pe_iload_n (j := 0) (by decide +kernel) rfl ?_
              refine pe_bipushv (n := 9) (v := 9) (by decide +kernel) (by decide +kernel) ?_
              refine pz_mul (by decide +kernel) rfl kz_9 (by omega) (by omega) (fun z29 hz29 => ?_)
              refine pe_iload_n (j := 1) (by decide +kernel) rfl ?_
              refine pz_add (by decide +kernel) hz29 rfl (by omega) (by omega) (fun z30 hz30 => ?_)
              clear hz29
              refine pe_iret (by decide +kernel) rfl rfl ⟨rfl, rfl, ?_⟩
              show pmE pg X pg_tyl pg_cl (d + 4) 194 74 [.ref 68, .int x1, .int x2, .int x3, .int x4, .int 0] [.int z30] (cd f A R wr) _
              refine pe_istore_n (j := 1) (ls' := [.ref 68, .int z30, .int x2, .int x3, .int x4, .int 0]) (by decide +kernel) (Nat.le_of_ble_eq_true rfl) rfl ?_
              refine pe_iload (j := 5) (by decide +kernel) rfl ?_
              refine pe_istore_n (j := 2) (ls' := [.ref 68, .int z30, .int 0, .int x3, .int x4, .int 0]) (by decide +kernel) (Nat.le_of_ble_eq_true rfl) rfl ?_
              refine pz_iinc (j := 4) (n := 1) (by decide +kernel) rfl rfl (by decide +kernel) (by omega) (by omega) (fun z31 hz31 => ?_)
              show pmE pg X pg_tyl pg_cl (d + 4) 194 81 [.ref 68, .int z30, .int 0, .int x3, .int z31, .int 0] [] (cd f A R wr) _
              refine pe_goto (off := (-61)) (t := 20) (by decide +kernel) (by decide) rfl ?_
              exact ih A z30 0 z31 (.int 0) hI (fun k n80 n81 n82 => (hF k n80 n81 n82)) (by omega) (by omega) (by omega)
set_option maxRecDepth 100000 in
set_option maxHeartbeats 8000000 in
theorem CL_194_6 {X : pm_X} {d : Nat} {wr : pm_W} {Q : pm_R → Prop} {f : Nat → Int32} {A0 : Nat → List Int32} {R : Nat → Value} {v : Nat} (hX : XO X) (hv : VV v) (hR3 : R 3 = .ref v) (k_90_0 : ∀ (A' : Nat → List Int32) (y1 : Int32) (y2 : Int32) (y3 : Int32) (v4 : Value) (v5 : Value), CI f A' R → (∀ k : Nat, k ≠ 80 → k ≠ 81 → k ≠ 82 → A' k = A0 k) → ((-1) ≤ y1.toInt) → (0 ≤ y3.toInt ∧ y3.toInt ≤ 9) → pmE pg X pg_tyl pg_cl (d + 4) 194 90 [.ref 68, .int y1, .int y2, .int y3, v4, v5] [] (cd f A' R wr) Q) : ∀ (m : Nat) (A : Nat → List Int32) (x1 : Int32) (x2 : Int32) (x3 : Int32) (u4 : Value) (u5 : Value), CI f A R → (∀ k : Nat, k ≠ 80 → k ≠ 81 → k ≠ 82 → A k = A0 k) → ((-1) ≤ x1.toInt) → (0 ≤ x3.toInt ∧ x3.toInt ≤ 9) → 9 - x3.toInt < (m : Int) → pmE pg X pg_tyl pg_cl (d + 4) 194 6 [.ref 68, .int x1, .int x2, .int x3, u4, u5] [] (cd f A R wr) Q := by
  have bv := VV_b hv
  intro m
  induction m with
  | zero =>
    intro A x1 x2 x3 u4 u5 hI hF gx1 gx3 hm
    exfalso
    have l0 := zi_lo x3
    have u0 := zi_hi x3
    omega
  | succ m ih =>
    intro A x1 x2 x3 u4 u5 hI hF gx1 gx3 hm
    refine pe_iload_n (j := 3) (by decide +kernel) rfl ?_
    refine pe_aload_n (j := 0) (by decide +kernel) rfl ?_
    refine pe_get (j := 12) (ci := 10) (n := 0) (by decide +kernel) (by decide +kernel) cd_o68 rfl ?_
    refine pe_topV (v := .ref v) (hR3) ?_
    refine pe_get (j := 49) (ci := 9) (n := 0) (by decide +kernel) (by decide +kernel) (cv_o hv) rfl ?_
    have hr_f_16v := cv_people hv hI
    refine pz_icmp_ge (off := 76) (t := 90) (by decide +kernel) (by decide) rfl rfl rfl (fun h1 => ?_) (fun h1 => ?_)
    · skip
      exact k_90_0 A x1 x2 x3 (u4) (u5) hI (fun k n80 n81 n82 => (hF k n80 n81 n82)) (by omega) (by omega)
    · skip
      refine pe_iconstv (n := 0) (v := 0) (by decide +kernel) (by decide +kernel) ?_
      refine pe_istore (j := 4) (ls' := [.ref 68, .int x1, .int x2, .int x3, .int 0, u5]) (by decide +kernel) (Nat.le_of_ble_eq_true rfl) rfl ?_
      refine CL_194_20 hX hv (hR3) (by omega) (fun A2 y3 y4 y5 u6 hIy7 hFA2 gy3 gy5 => ?_) 10 A x1 x2 0 (u5) hI (fun k _ _ _ => rfl) (by omega) (by decide +kernel) (by decide +kernel)
      refine pz_iinc (j := 3) (n := 1) (by decide +kernel) rfl rfl (by decide +kernel) (by omega) (by omega) (fun z8 hz8 => ?_)
      show pmE pg X pg_tyl pg_cl (d + 4) 194 87 [.ref 68, .int y3, .int y4, .int z8, .int y5, u6] [] (cd f A2 R wr) _
      refine pe_goto (off := (-81)) (t := 6) (by decide +kernel) (by decide) rfl ?_
      exact ih A2 y3 y4 z8 (.int y5) (u6) hIy7 (fun k n80 n81 n82 => ((hFA2 k n80 n81 n82)).trans ((hF k n80 n81 n82))) (by omega) (by omega) (by omega)
set_option maxRecDepth 100000 in
set_option maxHeartbeats 8000000 in
theorem CM_194 {X : pm_X} {d : Nat} {wr : pm_W} {f : Nat → Int32} {A : Nat → List Int32} {R : Nat → Value} {v : Nat} (hX : XO X) (hI : CI f A R) (hv : VV v) (hR3 : R 3 = .ref v) : pmE pg X pg_tyl pg_cl (d + 4) 194 0 (pm_ent (pm_max pg 194) [.ref 68]) [] (cd f A R wr) (fun q => ∃ (A' : Nat → List Int32) (r : Int32), q = (some (.int r), cd f A' R wr, 0, 0) ∧ CI f A' R ∧ (∀ k : Nat, k ≠ 80 → k ≠ 81 → k ≠ 82 → A' k = A k) ∧ ((((-1) ≤ r.toInt) ∧ True))) := by
  have bv := VV_b hv
  show pmE pg X pg_tyl pg_cl (d + 4) 194 0 [.ref 68, pm_dead, pm_dead, pm_dead, pm_dead, pm_dead] [] (cd f A R wr) _
  refine pe_iconstv (n := (-1)) (v := (-1)) (by decide +kernel) (by decide +kernel) ?_
  refine pe_istore_n (j := 1) (ls' := [.ref 68, .int (-1), pm_dead, pm_dead, pm_dead, pm_dead]) (by decide +kernel) (Nat.le_of_ble_eq_true rfl) rfl ?_
  refine pe_iconstv (n := 0) (v := 0) (by decide +kernel) (by decide +kernel) ?_
  refine pe_istore_n (j := 2) (ls' := [.ref 68, .int (-1), .int 0, pm_dead, pm_dead, pm_dead]) (by decide +kernel) (Nat.le_of_ble_eq_true rfl) rfl ?_
  refine pe_iconstv (n := 0) (v := 0) (by decide +kernel) (by decide +kernel) ?_
  refine pe_istore_n (j := 3) (ls' := [.ref 68, .int (-1), .int 0, .int 0, pm_dead, pm_dead]) (by decide +kernel) (Nat.le_of_ble_eq_true rfl) rfl ?_
  refine CL_194_6 hX hv (hR3) (fun A1 y2 y3 y4 u5 u6 hIy7 hFA1 gy2 gy4 => ?_) 10 A (-1) 0 0 (pm_dead) (pm_dead) hI (fun k _ _ _ => rfl) (by decide +kernel) (by decide +kernel) (by decide +kernel)
  refine pe_iload_n (j := 1) (by decide +kernel) rfl ?_
  exact pe_iret (by decide +kernel) rfl rfl ⟨A1, y2, rfl, hIy7, (fun k n80 n81 n82 => (hFA1 k n80 n81 n82)), ⟨(by omega), trivial⟩⟩
set_option maxRecDepth 100000 in
set_option maxHeartbeats 8000000 in
theorem CL_170_20 {X : pm_X} {d : Nat} {wr : pm_W} {Q : pm_R → Prop} {f : Nat → Int32} {A0 : Nat → List Int32} {R : Nat → Value} {x1 : Int32} {v : Nat} (hX : XO X) (hv : VV v) (hR3 : R 3 = .ref v) (k_185_0 : ∀ (A' : Nat → List Int32) (y2 : Int32) (y3 : Int32) (v4 : Value) (v5 : Value) (v6 : Value) (v7 : Value), CI f A' R → (∀ k : Nat, k ≠ 75 → k ≠ 76 → A' k = A0 k) → (0 ≤ y3.toInt ∧ y3.toInt ≤ 7) → pmE pg X pg_tyl pg_cl (d + 1) 170 185 [.ref 68, .int x1, .int y2, .int y3, v4, v5, v6, v7] [] (cd f A' R wr) Q) : ∀ (m : Nat) (A : Nat → List Int32) (x2 : Int32) (x3 : Int32) (u4 : Value) (u5 : Value) (u6 : Value) (u7 : Value), CI f A R → (∀ k : Nat, k ≠ 75 → k ≠ 76 → A k = A0 k) → (0 ≤ x3.toInt ∧ x3.toInt ≤ 7) → 7 - x3.toInt < (m : Int) → pmE pg X pg_tyl pg_cl (d + 1) 170 20 [.ref 68, .int x1, .int x2, .int x3, u4, u5, u6, u7] [] (cd f A R wr) Q := by
  have bv := VV_b hv
  intro m
  induction m with
  | zero =>
    intro A x2 x3 u4 u5 u6 u7 hI hF gx3 hm
    exfalso
    have l0 := zi_lo x3
    have u0 := zi_hi x3
    omega
  | succ m ih =>
    intro A x2 x3 u4 u5 u6 u7 hI hF gx3 hm
    refine pe_iload_n (j := 3) (by decide +kernel) rfl ?_
    refine pe_aload_n (j := 0) (by decide +kernel) rfl ?_
    refine pe_get (j := 12) (ci := 10) (n := 0) (by decide +kernel) (by decide +kernel) cd_o68 rfl ?_
    refine pe_topV (v := .ref v) (hR3) ?_
    refine pe_get (j := 60) (ci := 9) (n := 2) (by decide +kernel) (by decide +kernel) (cv_o hv) rfl ?_
    have hr_f_16v2 := cv_wants hv hI
    refine pz_icmp_ge (off := 157) (t := 185) (by decide +kernel) (by decide) rfl rfl rfl (fun h1 => ?_) (fun h1 => ?_)
    · skip
      exact k_185_0 A x2 x3 (u4) (u5) (u6) (u7) hI (fun k n75 n76 => (hF k n75 n76)) (by omega)
    · skip
      refine pe_iload_n (j := 1) (by decide +kernel) rfl ?_
      refine pe_iload_n (j := 3) (by decide +kernel) rfl ?_
      refine pi_S (j := 88) (mj := 89) (by decide +kernel) (by decide +kernel) rfl ?_
      show pmE pg X pg_tyl pg_cl (d) 89 0 [.int x1, .int x3] [] (cd f A R wr) _
      refine pe_iload_n (j := 0) (by decide +kernel) rfl ?_
      refine pe_iload_n (j := 1) (by decide +kernel) rfl ?_
      refine pw_shr (by decide +kernel) (fun z2 => ?_)
      refine pe_iconstv (n := 1) (v := 1) (by decide +kernel) (by decide +kernel) ?_
      refine pz_and1 (by decide +kernel) (fun z3 hz3 => ?_)
      refine pz_if_eq (off := 7) (t := 12) (by decide +kernel) (by decide) rfl rfl (fun h4 => ?_) (fun h4 => ?_)
      · skip
        refine pe_iconstv (n := 0) (v := 0) (by decide +kernel) (by decide +kernel) ?_
        refine pe_iret (by decide +kernel) rfl rfl ⟨rfl, rfl, ?_⟩
        show pmE pg X pg_tyl pg_cl (d + 1) 170 36 [.ref 68, .int x1, .int x2, .int x3, u4, u5, u6, u7] [.int 0] (cd f A R wr) _
        refine pz_if_eq (off := 143) (t := 179) (by decide +kernel) (by decide) rfl kz_0 (fun h5 => ?_) (fun h5 => by omega)
        refine pz_iinc (j := 3) (n := 1) (by decide +kernel) rfl rfl (by decide +kernel) (by omega) (by omega) (fun z6 hz6 => ?_)
        show pmE pg X pg_tyl pg_cl (d + 1) 170 182 [.ref 68, .int x1, .int x2, .int z6, u4, u5, u6, u7] [] (cd f A R wr) _
        refine pe_goto (off := (-162)) (t := 20) (by decide +kernel) (by decide) rfl ?_
        exact ih A x2 z6 (u4) (u5) (u6) (u7) hI (fun k n75 n76 => (hF k n75 n76)) (by omega) (by omega)
      · skip
        refine pe_iconstv (n := 1) (v := 1) (by decide +kernel) (by decide +kernel) ?_
        refine pe_goto (off := 4) (t := 13) (by decide +kernel) (by decide) rfl ?_
        refine pe_iret (by decide +kernel) rfl rfl ⟨rfl, rfl, ?_⟩
        show pmE pg X pg_tyl pg_cl (d + 1) 170 36 [.ref 68, .int x1, .int x2, .int x3, u4, u5, u6, u7] [.int 1] (cd f A R wr) _
        refine pz_if_eq (off := 143) (t := 179) (by decide +kernel) (by decide) rfl kz_1 (fun h7 => by omega) (fun h7 => ?_)
        refine pe_aload_n (j := 0) (by decide +kernel) rfl ?_
        refine pe_get (j := 12) (ci := 10) (n := 0) (by decide +kernel) (by decide +kernel) cd_o68 rfl ?_
        refine pe_topV (v := .ref v) (hR3) ?_
        refine pe_iload_n (j := 3) (by decide +kernel) rfl ?_
        refine pe_iconstv (n := 2) (v := 2) (by decide +kernel) (by decide +kernel) ?_
        refine pi_V (j := 66) (mj := 65) (by decide +kernel) (cll_V (args := [.int 2, .int x3]) (n := 2) (by decide +kernel) rfl rfl (cv_o hv) (by decide +kernel) (Nat.le_of_ble_eq_true rfl) (Nat.le_of_ble_eq_true rfl)) ?_
        show pmE pg X pg_tyl pg_cl (d) 65 0 [.ref v, .int x3, .int 2] [] (cd f A R wr) _
        refine pe_aload_n (j := 0) (by decide +kernel) rfl ?_
        refine pe_get (j := 25) (ci := 9) (n := 6) (by decide +kernel) (by decide +kernel) (cv_o hv) rfl ?_
        refine pe_iload_n (j := 1) (by decide +kernel) rfl ?_
        refine pe_iconstv (n := 4) (v := 4) (by decide +kernel) (by decide +kernel) ?_
        refine pz_mul (by decide +kernel) rfl kz_4 (by omega) (by omega) (fun z8 hz8 => ?_)
        refine pe_iload_n (j := 2) (by decide +kernel) rfl ?_
        refine pz_add (by decide +kernel) hz8 kz_2 (by omega) (by omega) (fun z9 hz9 => ?_)
        clear hz8
        refine pz_iald (by decide +kernel) (cv_a4 hv) (cv_l4 hv hI) hz9 (by omega) (by omega) (fun v10 ev10 => ?_)
        rw [show A (v + 4) = A0 (v + 4) from (hF (v + 4) (by omega) (by omega))] at ev10
        clear hz9
        refine pe_iret (by decide +kernel) rfl rfl ⟨rfl, rfl, ?_⟩
        show pmE pg X pg_tyl pg_cl (d + 1) 170 48 [.ref 68, .int x1, .int x2, .int x3, u4, u5, u6, u7] [.int v10] (cd f A R wr) _
        refine pe_istore (j := 4) (ls' := [.ref 68, .int x1, .int x2, .int x3, .int v10, u5, u6, u7]) (by decide +kernel) (Nat.le_of_ble_eq_true rfl) rfl ?_
        refine pe_aload_n (j := 0) (by decide +kernel) rfl ?_
        refine pe_get (j := 12) (ci := 10) (n := 0) (by decide +kernel) (by decide +kernel) cd_o68 rfl ?_
        refine pe_topV (v := .ref v) (hR3) ?_
        refine pe_iload_n (j := 3) (by decide +kernel) rfl ?_
        refine pe_iconstv (n := 0) (v := 0) (by decide +kernel) (by decide +kernel) ?_
        refine pi_V (j := 66) (mj := 65) (by decide +kernel) (cll_V (args := [.int 0, .int x3]) (n := 2) (by decide +kernel) rfl rfl (cv_o hv) (by decide +kernel) (Nat.le_of_ble_eq_true rfl) (Nat.le_of_ble_eq_true rfl)) ?_
        show pmE pg X pg_tyl pg_cl (d) 65 0 [.ref v, .int x3, .int 0] [] (cd f A R wr) _
        refine pe_aload_n (j := 0) (by decide +kernel) rfl ?_
        refine pe_get (j := 25) (ci := 9) (n := 6) (by decide +kernel) (by decide +kernel) (cv_o hv) rfl ?_
        refine pe_iload_n (j := 1) (by decide +kernel) rfl ?_
        refine pe_iconstv (n := 4) (v := 4) (by decide +kernel) (by decide +kernel) ?_
        refine pz_mul (by decide +kernel) rfl kz_4 (by omega) (by omega) (fun z11 hz11 => ?_)
        refine pe_iload_n (j := 2) (by decide +kernel) rfl ?_
        refine pz_add (by decide +kernel) hz11 kz_0 (by omega) (by omega) (fun z12 hz12 => ?_)
        clear hz11
        refine pz_iald (by decide +kernel) (cv_a4 hv) (cv_l4 hv hI) hz12 (by omega) (by omega) (fun v13 ev13 => ?_)
        have rv13 : 0 ≤ v13.toInt ∧ v13.toInt ≤ 8 := ct0_m (cv_t4 hv hI ev13) (by omega)
        rw [show A (v + 4) = A0 (v + 4) from (hF (v + 4) (by omega) (by omega))] at ev13
        clear hz12
        refine pe_iret (by decide +kernel) rfl rfl ⟨rfl, rfl, ?_⟩
        show pmE pg X pg_tyl pg_cl (d + 1) 170 59 [.ref 68, .int x1, .int x2, .int x3, .int v10, u5, u6, u7] [.int v13] (cd f A R wr) _
        refine pe_istore (j := 5) (ls' := [.ref 68, .int x1, .int x2, .int x3, .int v10, .int v13, u6, u7]) (by decide +kernel) (Nat.le_of_ble_eq_true rfl) rfl ?_
        refine pe_aload_n (j := 0) (by decide +kernel) rfl ?_
        refine pe_get (j := 12) (ci := 10) (n := 0) (by decide +kernel) (by decide +kernel) cd_o68 rfl ?_
        refine pe_topV (v := .ref v) (hR3) ?_
        refine pe_iload_n (j := 3) (by decide +kernel) rfl ?_
        refine pe_iconstv (n := 1) (v := 1) (by decide +kernel) (by decide +kernel) ?_
        refine pi_V (j := 66) (mj := 65) (by decide +kernel) (cll_V (args := [.int 1, .int x3]) (n := 2) (by decide +kernel) rfl rfl (cv_o hv) (by decide +kernel) (Nat.le_of_ble_eq_true rfl) (Nat.le_of_ble_eq_true rfl)) ?_
        show pmE pg X pg_tyl pg_cl (d) 65 0 [.ref v, .int x3, .int 1] [] (cd f A R wr) _
        refine pe_aload_n (j := 0) (by decide +kernel) rfl ?_
        refine pe_get (j := 25) (ci := 9) (n := 6) (by decide +kernel) (by decide +kernel) (cv_o hv) rfl ?_
        refine pe_iload_n (j := 1) (by decide +kernel) rfl ?_
        refine pe_iconstv (n := 4) (v := 4) (by decide +kernel) (by decide +kernel) ?_
        refine pz_mul (by decide +kernel) rfl kz_4 (by omega) (by omega) (fun z14 hz14 => ?_)
        refine pe_iload_n (j := 2) (by decide +kernel) rfl ?_
        refine pz_add (by decide +kernel) hz14 kz_1 (by omega) (by omega) (fun z15 hz15 => ?_)
        clear hz14
        refine pz_iald (by decide +kernel) (cv_a4 hv) (cv_l4 hv hI) hz15 (by omega) (by omega) (fun v16 ev16 => ?_)
        have rv16 : 0 ≤ v16.toInt ∧ v16.toInt ≤ 8 := ct0_m (cv_t4 hv hI ev16) (by omega)
        rw [show A (v + 4) = A0 (v + 4) from (hF (v + 4) (by omega) (by omega))] at ev16
        clear hz15
        refine pe_iret (by decide +kernel) rfl rfl ⟨rfl, rfl, ?_⟩
        show pmE pg X pg_tyl pg_cl (d + 1) 170 70 [.ref 68, .int x1, .int x2, .int x3, .int v10, .int v13, u6, u7] [.int v16] (cd f A R wr) _
        refine pe_istore (j := 6) (ls' := [.ref 68, .int x1, .int x2, .int x3, .int v10, .int v13, .int v16, u7]) (by decide +kernel) (Nat.le_of_ble_eq_true rfl) rfl ?_
        refine pe_iconstv (n := 0) (v := 0) (by decide +kernel) (by decide +kernel) ?_
        refine pe_aload_n (j := 0) (by decide +kernel) rfl ?_
        refine pe_get (j := 22) (ci := 10) (n := 2) (by decide +kernel) (by decide +kernel) cd_o68 rfl ?_
        refine pe_iload (j := 5) (by decide +kernel) rfl ?_
        refine pe_iload (j := 6) (by decide +kernel) rfl ?_
        refine pi_S (j := 53) (mj := 52) (by decide +kernel) (by decide +kernel) rfl ?_
        show pmE pg X pg_tyl pg_cl (d) 52 0 [.int v13, .int v16] [] (cd f A R wr) _
        refine pe_iload_n (j := 0) (by decide +kernel) rfl ?_
        refine pe_bipushv (n := 9) (v := 9) (by decide +kernel) (by decide +kernel) ?_
        refine pz_mul (by decide +kernel) rfl kz_9 (by omega) (by omega) (fun z17 hz17 => ?_)
        refine pe_iload_n (j := 1) (by decide +kernel) rfl ?_
        refine pz_add (by decide +kernel) hz17 rfl (by omega) (by omega) (fun z18 hz18 => ?_)
        clear hz17
        refine pe_iret (by decide +kernel) rfl rfl ⟨rfl, rfl, ?_⟩
        show pmE pg X pg_tyl pg_cl (d + 1) 170 84 [.ref 68, .int x1, .int x2, .int x3, .int v10, .int v13, .int v16, u7] [.int z18, .ref 75, .int 0] (cd f A R wr) _
        refine pz_iald (by decide +kernel) cd_a75 (cl_75 hI) hz18 (by omega) (by omega) (fun v19 ev19 => ?_)
        clear hz18
        refine pe_aload_n (j := 0) (by decide +kernel) rfl ?_
        refine pe_get (j := 18) (ci := 10) (n := 1) (by decide +kernel) (by decide +kernel) cd_o68 rfl ?_
        refine pe_iload (j := 5) (by decide +kernel) rfl ?_
        refine pe_iload (j := 6) (by decide +kernel) rfl ?_
        refine pi_S (j := 53) (mj := 52) (by decide +kernel) (by decide +kernel) rfl ?_
        show pmE pg X pg_tyl pg_cl (d) 52 0 [.int v13, .int v16] [] (cd f A R wr) _
        refine pe_iload_n (j := 0) (by decide +kernel) rfl ?_
        refine pe_bipushv (n := 9) (v := 9) (by decide +kernel) (by decide +kernel) ?_
        refine pz_mul (by decide +kernel) rfl kz_9 (by omega) (by omega) (fun z20 hz20 => ?_)
        refine pe_iload_n (j := 1) (by decide +kernel) rfl ?_
        refine pz_add (by decide +kernel) hz20 rfl (by omega) (by omega) (fun z21 hz21 => ?_)
        clear hz20
        refine pe_iret (by decide +kernel) rfl rfl ⟨rfl, rfl, ?_⟩
        show pmE pg X pg_tyl pg_cl (d + 1) 170 96 [.ref 68, .int x1, .int x2, .int x3, .int v10, .int v13, .int v16, u7] [.int z21, .ref 74, .int v19, .int 0] (cd f A R wr) _
        refine pz_iald (by decide +kernel) cd_a74 (cl_74 hI) hz21 (by omega) (by omega) (fun v22 ev22 => ?_)
        rw [show A 74 = A0 74 from (hF 74 (by decide) (by decide))] at ev22
        clear hz21
        refine pw_sub (by decide +kernel) (fun z23 => ?_)
        have hl25 := kz_0
        have lw26 := zi_lo z23
        have uw26 := zi_hi z23
        refine pz_max (j := 92) (c := 2147483647) (by decide +kernel) (by decide +kernel) (Nat.le_of_ble_eq_true rfl) kz_0 rfl (by omega) (by omega) (fun z24 hz24 => ?_)
        refine pe_istore (j := 7) (ls' := [.ref 68, .int x1, .int x2, .int x3, .int v10, .int v13, .int v16, .int z24]) (by decide +kernel) (Nat.le_of_ble_eq_true rfl) rfl ?_
        refine pe_aload_n (j := 0) (by decide +kernel) rfl ?_
        refine pe_get (j := 22) (ci := 10) (n := 2) (by decide +kernel) (by decide +kernel) cd_o68 rfl ?_
        refine pe_iload (j := 5) (by decide +kernel) rfl ?_
        refine pe_iload (j := 6) (by decide +kernel) rfl ?_
        refine pi_S (j := 53) (mj := 52) (by decide +kernel) (by decide +kernel) rfl ?_
        show pmE pg X pg_tyl pg_cl (d) 52 0 [.int v13, .int v16] [] (cd f A R wr) _
        refine pe_iload_n (j := 0) (by decide +kernel) rfl ?_
        refine pe_bipushv (n := 9) (v := 9) (by decide +kernel) (by decide +kernel) ?_
        refine pz_mul (by decide +kernel) rfl kz_9 (by omega) (by omega) (fun z27 hz27 => ?_)
        refine pe_iload_n (j := 1) (by decide +kernel) rfl ?_
        refine pz_add (by decide +kernel) hz27 rfl (by omega) (by omega) (fun z28 hz28 => ?_)
        clear hz27
        refine pe_iret (by decide +kernel) rfl rfl ⟨rfl, rfl, ?_⟩
        show pmE pg X pg_tyl pg_cl (d + 1) 170 114 [.ref 68, .int x1, .int x2, .int x3, .int v10, .int v13, .int v16, .int z24] [.int z28, .ref 75] (cd f A R wr) _
        refine pe_dup2 (by decide +kernel) ⟨rfl, rfl⟩ ?_
        refine pz_iald (by decide +kernel) cd_a75 (cl_75 hI) hz28 (by omega) (by omega) (fun v29 ev29 => ?_)
        rw [ev29.trans ev19.symm]
        clear ev29 v29
        refine pe_iload (j := 4) (by decide +kernel) rfl ?_
        refine pw_add (by decide +kernel) (fun z30 => ?_)
        refine cz_st75 (by decide +kernel) hI hz28 (by omega) (by omega) (fun A31 eA31 hIA31 => ?_)
        refine pe_iload_n (j := 2) (by decide +kernel) rfl ?_
        refine pe_iconstv (n := 0) (v := 0) (by decide +kernel) (by decide +kernel) ?_
        refine pe_aload_n (j := 0) (by decide +kernel) rfl ?_
        refine pe_get (j := 22) (ci := 10) (n := 2) (by decide +kernel) (by decide +kernel) cd_o68 rfl ?_
        refine pe_iload (j := 5) (by decide +kernel) rfl ?_
        refine pe_iload (j := 6) (by decide +kernel) rfl ?_
        refine pi_S (j := 53) (mj := 52) (by decide +kernel) (by decide +kernel) rfl ?_
        show pmE pg X pg_tyl pg_cl (d) 52 0 [.int v13, .int v16] [] (cd f A31 R wr) _
        refine pe_iload_n (j := 0) (by decide +kernel) rfl ?_
        refine pe_bipushv (n := 9) (v := 9) (by decide +kernel) (by decide +kernel) ?_
        refine pz_mul (by decide +kernel) rfl kz_9 (by omega) (by omega) (fun z32 hz32 => ?_)
        refine pe_iload_n (j := 1) (by decide +kernel) rfl ?_
        refine pz_add (by decide +kernel) hz32 rfl (by omega) (by omega) (fun z33 hz33 => ?_)
        clear hz32
        refine pe_iret (by decide +kernel) rfl rfl ⟨rfl, rfl, ?_⟩
        show pmE pg X pg_tyl pg_cl (d + 1) 170 133 [.ref 68, .int x1, .int x2, .int x3, .int v10, .int v13, .int v16, .int z24] [.int z33, .ref 75, .int 0, .int x2] (cd f A31 R wr) _
        refine pz_iald (by decide +kernel) cd_a75 (cl_75 hIA31) hz33 (by omega) (by omega) (fun v34 ev34 => ?_)
        clear hz33
        refine pe_aload_n (j := 0) (by decide +kernel) rfl ?_
        refine pe_get (j := 18) (ci := 10) (n := 1) (by decide +kernel) (by decide +kernel) cd_o68 rfl ?_
        refine pe_iload (j := 5) (by decide +kernel) rfl ?_
        refine pe_iload (j := 6) (by decide +kernel) rfl ?_
        refine pi_S (j := 53) (mj := 52) (by decide +kernel) (by decide +kernel) rfl ?_
        show pmE pg X pg_tyl pg_cl (d) 52 0 [.int v13, .int v16] [] (cd f A31 R wr) _
        refine pe_iload_n (j := 0) (by decide +kernel) rfl ?_
        refine pe_bipushv (n := 9) (v := 9) (by decide +kernel) (by decide +kernel) ?_
        refine pz_mul (by decide +kernel) rfl kz_9 (by omega) (by omega) (fun z35 hz35 => ?_)
        refine pe_iload_n (j := 1) (by decide +kernel) rfl ?_
        refine pz_add (by decide +kernel) hz35 rfl (by omega) (by omega) (fun z36 hz36 => ?_)
        clear hz35
        refine pe_iret (by decide +kernel) rfl rfl ⟨rfl, rfl, ?_⟩
        show pmE pg X pg_tyl pg_cl (d + 1) 170 145 [.ref 68, .int x1, .int x2, .int x3, .int v10, .int v13, .int v16, .int z24] [.int z36, .ref 74, .int v34, .int 0, .int x2] (cd f A31 R wr) _
        refine pz_iald (by decide +kernel) cd_a74 (cl_74 hIA31) hz36 (by omega) (by omega) (fun v37 ev37 => ?_)
        rw [show A31 74 = A0 74 from (upa_fr eA31 (by decide)).trans ((hF 74 (by decide) (by decide)))] at ev37
        rw [ev37.trans ev22.symm]
        clear ev37 v37
        clear hz36
        refine pw_sub (by decide +kernel) (fun z38 => ?_)
        have hl40 := kz_0
        have lw41 := zi_lo z38
        have uw41 := zi_hi z38
        refine pz_max (j := 92) (c := 2147483647) (by decide +kernel) (by decide +kernel) (Nat.le_of_ble_eq_true rfl) kz_0 rfl (by omega) (by omega) (fun z39 hz39 => ?_)
        refine pe_iload (j := 7) (by decide +kernel) rfl ?_
        have lw43 := zi_lo z39
        have uw43 := zi_hi z39
        have lw44 := zi_lo z24
        have uw44 := zi_hi z24
        refine pz_sub (by decide +kernel) rfl rfl (by omega) (by omega) (fun z42 hz42 => ?_)
        refine pw_add (by decide +kernel) (fun z45 => ?_)
        clear hz42
        refine pe_istore_n (j := 2) (ls' := [.ref 68, .int x1, .int z45, .int x3, .int v10, .int v13, .int v16, .int z24]) (by decide +kernel) (Nat.le_of_ble_eq_true rfl) rfl ?_
        refine pe_aload_n (j := 0) (by decide +kernel) rfl ?_
        refine pe_get (j := 25) (ci := 10) (n := 3) (by decide +kernel) (by decide +kernel) cd_o68 rfl ?_
        refine pe_iload (j := 5) (by decide +kernel) rfl ?_
        refine pe_dup2 (by decide +kernel) ⟨rfl, rfl⟩ ?_
        refine pz_iald (by decide +kernel) cd_a76 (cl_76 hIA31) rfl (by omega) (by omega) (fun v46 ev46 => ?_)
        rw [show A31 76 = A 76 from upa_fr eA31 (by decide)] at ev46
        refine pe_iload (j := 4) (by decide +kernel) rfl ?_
        refine pw_sub (by decide +kernel) (fun z47 => ?_)
        refine cz_st76 (by decide +kernel) hIA31 rfl (by omega) (by omega) (fun A48 eA48 hIA48 => ?_)
        refine pe_aload_n (j := 0) (by decide +kernel) rfl ?_
        refine pe_get (j := 25) (ci := 10) (n := 3) (by decide +kernel) (by decide +kernel) cd_o68 rfl ?_
        refine pe_iload (j := 6) (by decide +kernel) rfl ?_
        refine pe_dup2 (by decide +kernel) ⟨rfl, rfl⟩ ?_
        refine pz_iald (by decide +kernel) cd_a76 (cl_76 hIA48) rfl (by omega) (by omega) (fun v49 ev49 => ?_)
        refine pe_iload (j := 4) (by decide +kernel) rfl ?_
        refine pw_add (by decide +kernel) (fun z50 => ?_)
        refine cz_st76 (by decide +kernel) hIA48 rfl (by omega) (by omega) (fun A51 eA51 hIA51 => ?_)
        refine pz_iinc (j := 3) (n := 1) (by decide +kernel) rfl rfl (by decide +kernel) (by omega) (by omega) (fun z52 hz52 => ?_)
        show pmE pg X pg_tyl pg_cl (d + 1) 170 182 [.ref 68, .int x1, .int z45, .int z52, .int v10, .int v13, .int v16, .int z24] [] (cd f A51 R wr) _
        refine pe_goto (off := (-162)) (t := 20) (by decide +kernel) (by decide) rfl ?_
        exact ih A51 z45 z52 (.int v10) (.int v13) (.int v16) (.int z24) hIA51 (fun k n75 n76 => (upa_fr eA51 n76).trans ((upa_fr eA48 n76).trans ((upa_fr eA31 n75).trans ((hF k n75 n76))))) (by omega) (by omega)
set_option maxRecDepth 100000 in
set_option maxHeartbeats 8000000 in
theorem CM_170 {X : pm_X} {d : Nat} {wr : pm_W} {f : Nat → Int32} {A : Nat → List Int32} {R : Nat → Value} {x1 : Int32} {v : Nat} (hX : XO X) (hI : CI f A R) (hv : VV v) (hR3 : R 3 = .ref v) : pmE pg X pg_tyl pg_cl (d + 1) 170 0 (pm_ent (pm_max pg 170) [.ref 68, .int x1]) [] (cd f A R wr) (fun q => ∃ (A' : Nat → List Int32) (r : Int32), q = (some (.int r), cd f A' R wr, 0, 0) ∧ CI f A' R ∧ (∀ k : Nat, k ≠ 75 → k ≠ 76 → A' k = A k) ∧ ((True ∧ True))) := by
  have bv := VV_b hv
  show pmE pg X pg_tyl pg_cl (d + 1) 170 0 [.ref 68, .int x1, pm_dead, pm_dead, pm_dead, pm_dead, pm_dead, pm_dead] [] (cd f A R wr) _
  refine pe_aload_n (j := 0) (by decide +kernel) rfl ?_
  refine pe_get (j := 22) (ci := 10) (n := 2) (by decide +kernel) (by decide +kernel) cd_o68 rfl ?_
  refine pe_iconstv (n := 0) (v := 0) (by decide +kernel) (by decide +kernel) ?_
  refine cz_fill (j := 82) (k := 75) (n := 81) (by decide +kernel) (by decide +kernel) rfl cd_a75 (fun _ => cd_s75) hI (cl_75 hI) (by decide +kernel) (ct_no (by decide +kernel)) (fun A1 eA1 hIA1 => ?_)
  refine pe_aload_n (j := 0) (by decide +kernel) rfl ?_
  refine pe_get (j := 25) (ci := 10) (n := 3) (by decide +kernel) (by decide +kernel) cd_o68 rfl ?_
  refine pe_iconstv (n := 0) (v := 0) (by decide +kernel) (by decide +kernel) ?_
  refine cz_fill (j := 82) (k := 76) (n := 9) (by decide +kernel) (by decide +kernel) rfl cd_a76 (fun _ => cd_s76) hIA1 (cl_76 hIA1) (by decide +kernel) (ct_no (by decide +kernel)) (fun A2 eA2 hIA2 => ?_)
  refine pe_iconstv (n := 0) (v := 0) (by decide +kernel) (by decide +kernel) ?_
  refine pe_istore_n (j := 2) (ls' := [.ref 68, .int x1, .int 0, pm_dead, pm_dead, pm_dead, pm_dead, pm_dead]) (by decide +kernel) (Nat.le_of_ble_eq_true rfl) rfl ?_
  refine pe_iconstv (n := 0) (v := 0) (by decide +kernel) (by decide +kernel) ?_
  refine pe_istore_n (j := 3) (ls' := [.ref 68, .int x1, .int 0, .int 0, pm_dead, pm_dead, pm_dead, pm_dead]) (by decide +kernel) (Nat.le_of_ble_eq_true rfl) rfl ?_
  refine CL_170_20 hX hv (hR3) (fun A3 y4 y5 u6 u7 u8 u9 hIy10 hFA3 gy5 => ?_) 8 A2 0 0 (pm_dead) (pm_dead) (pm_dead) (pm_dead) hIA2 (fun k _ _ => rfl) (by decide +kernel) (by decide +kernel)
  refine pe_iload_n (j := 2) (by decide +kernel) rfl ?_
  exact pe_iret (by decide +kernel) rfl rfl ⟨A3, y4, rfl, hIy10, (fun k n75 n76 => ((hFA3 k n75 n76)).trans ((upa_fr eA2 n76).trans (upa_fr eA1 n75))), ⟨trivial, trivial⟩⟩
set_option maxRecDepth 100000 in
set_option maxHeartbeats 8000000 in
theorem CL_171_25 {X : pm_X} {d : Nat} {wr : pm_W} {Q : pm_R → Prop} {f : Nat → Int32} {A0 : Nat → List Int32} {R : Nat → Value} {x1 x2 x3 : Int32} {v : Nat} (hX : XO X) (hv : VV v) (hR3 : R 3 = .ref v) (gx3 : (0 ≤ x3.toInt ∧ x3.toInt ≤ 8)) (k_80_0 : ∀ (A' : Nat → List Int32) (y4 : Int32), CI f A' R → (∀ k : Nat, k ≠ 80 → A' k = A0 k) → (0 ≤ y4.toInt ∧ y4.toInt ≤ 9) → pmE pg X pg_tyl pg_cl (d + 3) 171 80 [.ref 68, .int x1, .int x2, .int x3, .int y4] [] (cd f A' R wr) Q) : ∀ (m : Nat) (A : Nat → List Int32) (x4 : Int32), CI f A R → (∀ k : Nat, k ≠ 80 → A k = A0 k) → (0 ≤ x4.toInt ∧ x4.toInt ≤ 9) → 9 - x4.toInt < (m : Int) → pmE pg X pg_tyl pg_cl (d + 3) 171 25 [.ref 68, .int x1, .int x2, .int x3, .int x4] [] (cd f A R wr) Q := by
  have bv := VV_b hv
  intro m
  induction m with
  | zero =>
    intro A x4 hI hF gx4 hm
    exfalso
    have l0 := zi_lo x4
    have u0 := zi_hi x4
    omega
  | succ m ih =>
    intro A x4 hI hF gx4 hm
    refine pe_iload (j := 4) (by decide +kernel) rfl ?_
    refine pe_aload_n (j := 0) (by decide +kernel) rfl ?_
    refine pe_get (j := 12) (ci := 10) (n := 0) (by decide +kernel) (by decide +kernel) cd_o68 rfl ?_
    refine pe_topV (v := .ref v) (hR3) ?_
    refine pe_get (j := 49) (ci := 9) (n := 0) (by decide +kernel) (by decide +kernel) (cv_o hv) rfl ?_
    have hr_f_16v := cv_people hv hI
    refine pz_icmp_ge (off := 46) (t := 80) (by decide +kernel) (by decide) rfl rfl rfl (fun h1 => ?_) (fun h1 => ?_)
    · skip
      exact k_80_0 A x4 hI (fun k n80 => (hF k n80)) (by omega)
    · skip
      refine pe_aload_n (j := 0) (by decide +kernel) rfl ?_
      refine pe_get (j := 38) (ci := 10) (n := 6) (by decide +kernel) (by decide +kernel) cd_o68 rfl ?_
      refine pe_iload_n (j := 3) (by decide +kernel) rfl ?_
      refine pe_iload (j := 4) (by decide +kernel) rfl ?_
      refine pe_iconstv (n := 0) (v := 0) (by decide +kernel) (by decide +kernel) ?_
      refine pe_aload_n (j := 0) (by decide +kernel) rfl ?_
      refine pe_get (j := 18) (ci := 10) (n := 1) (by decide +kernel) (by decide +kernel) cd_o68 rfl ?_
      refine pe_iload_n (j := 3) (by decide +kernel) rfl ?_
      refine pe_iload (j := 4) (by decide +kernel) rfl ?_
      refine pi_S (j := 53) (mj := 52) (by decide +kernel) (by decide +kernel) rfl ?_
      show pmE pg X pg_tyl pg_cl (d + 2) 52 0 [.int x3, .int x4] [] (cd f A R wr) _
      refine pe_iload_n (j := 0) (by decide +kernel) rfl ?_
      refine pe_bipushv (n := 9) (v := 9) (by decide +kernel) (by decide +kernel) ?_
      refine pz_mul (by decide +kernel) rfl kz_9 (by omega) (by omega) (fun z2 hz2 => ?_)
      refine pe_iload_n (j := 1) (by decide +kernel) rfl ?_
      refine pz_add (by decide +kernel) hz2 rfl (by omega) (by omega) (fun z3 hz3 => ?_)
      clear hz2
      refine pe_iret (by decide +kernel) rfl rfl ⟨rfl, rfl, ?_⟩
      show pmE pg X pg_tyl pg_cl (d + 3) 171 55 [.ref 68, .int x1, .int x2, .int x3, .int x4] [.int z3, .ref 74, .int 0, .int x4, .int x3, .ref 79] (cd f A R wr) _
      refine pz_iald (by decide +kernel) cd_a74 (cl_74 hI) hz3 (by omega) (by omega) (fun v4 ev4 => ?_)
      rw [show A 74 = A0 74 from (hF 74 (by decide))] at ev4
      clear hz3
      refine pe_aload_n (j := 0) (by decide +kernel) rfl ?_
      refine pe_get (j := 22) (ci := 10) (n := 2) (by decide +kernel) (by decide +kernel) cd_o68 rfl ?_
      refine pe_iload_n (j := 3) (by decide +kernel) rfl ?_
      refine pe_iload (j := 4) (by decide +kernel) rfl ?_
      refine pi_S (j := 53) (mj := 52) (by decide +kernel) (by decide +kernel) rfl ?_
      show pmE pg X pg_tyl pg_cl (d + 2) 52 0 [.int x3, .int x4] [] (cd f A R wr) _
      refine pe_iload_n (j := 0) (by decide +kernel) rfl ?_
      refine pe_bipushv (n := 9) (v := 9) (by decide +kernel) (by decide +kernel) ?_
      refine pz_mul (by decide +kernel) rfl kz_9 (by omega) (by omega) (fun z5 hz5 => ?_)
      refine pe_iload_n (j := 1) (by decide +kernel) rfl ?_
      refine pz_add (by decide +kernel) hz5 rfl (by omega) (by omega) (fun z6 hz6 => ?_)
      clear hz5
      refine pe_iret (by decide +kernel) rfl rfl ⟨rfl, rfl, ?_⟩
      show pmE pg X pg_tyl pg_cl (d + 3) 171 66 [.ref 68, .int x1, .int x2, .int x3, .int x4] [.int z6, .ref 75, .int v4, .int 0, .int x4, .int x3, .ref 79] (cd f A R wr) _
      refine pz_iald (by decide +kernel) cd_a75 (cl_75 hI) hz6 (by omega) (by omega) (fun v7 ev7 => ?_)
      rw [show A 75 = A0 75 from (hF 75 (by decide))] at ev7
      clear hz6
      refine pw_sub (by decide +kernel) (fun z8 => ?_)
      have hl10 := kz_0
      have lw11 := zi_lo z8
      have uw11 := zi_hi z8
      refine pz_max (j := 92) (c := 2147483647) (by decide +kernel) (by decide +kernel) (Nat.le_of_ble_eq_true rfl) kz_0 rfl (by omega) (by omega) (fun z9 hz9 => ?_)
      refine pi_V (j := 72) (mj := 163) (by decide +kernel) (cll_V (args := [.int z9, .int x4, .int x3]) (n := 3) (by decide +kernel) rfl rfl cd_o79 (by decide +kernel) (Nat.le_of_ble_eq_true rfl) (Nat.le_of_ble_eq_true rfl)) ?_
      show pmE pg X pg_tyl pg_cl (d + 2) 163 0 [.ref 79, .int x3, .int x4, .int z9] [] (cd f A R wr) _
      refine pe_aload_n (j := 0) (by decide +kernel) rfl ?_
      refine pe_get (j := 11) (ci := 0) (n := 0) (by decide +kernel) (by decide +kernel) cd_o79 rfl ?_
      refine pe_iload_n (j := 1) (by decide +kernel) rfl ?_
      refine pe_bipushv (n := 12) (v := 12) (by decide +kernel) (by decide +kernel) ?_
      refine pz_mul (by decide +kernel) rfl kz_12 (by omega) (by omega) (fun z12 hz12 => ?_)
      refine pe_iload_n (j := 2) (by decide +kernel) rfl ?_
      refine pz_add (by decide +kernel) hz12 rfl (by omega) (by omega) (fun z13 hz13 => ?_)
      clear hz12
      refine pe_iload_n (j := 3) (by decide +kernel) rfl ?_
      refine cz_st80 (by decide +kernel) hI hz13 (by omega) (by omega) (fun A14 eA14 hIA14 => ?_)
      refine pe_vret (by decide +kernel) rfl ⟨rfl, rfl, ?_⟩
      show pmE pg X pg_tyl pg_cl (d + 3) 171 74 [.ref 68, .int x1, .int x2, .int x3, .int x4] [] (cd f A14 R wr) _
      refine pz_iinc (j := 4) (n := 1) (by decide +kernel) rfl rfl (by decide +kernel) (by omega) (by omega) (fun z15 hz15 => ?_)
      show pmE pg X pg_tyl pg_cl (d + 3) 171 77 [.ref 68, .int x1, .int x2, .int x3, .int z15] [] (cd f A14 R wr) _
      refine pe_goto (off := (-52)) (t := 25) (by decide +kernel) (by decide) rfl ?_
      exact ih A14 z15 hIA14 (fun k n80 => (upa_fr eA14 n80).trans ((hF k n80))) (by omega) (by omega)
set_option maxRecDepth 100000 in
set_option maxHeartbeats 8000000 in
theorem CL_171_11 {X : pm_X} {d : Nat} {wr : pm_W} {Q : pm_R → Prop} {f : Nat → Int32} {A0 : Nat → List Int32} {R : Nat → Value} {x1 : Int32} {v : Nat} (hX : XO X) (hv : VV v) (hR3 : R 3 = .ref v) (k_162_0 : ∀ (A' : Nat → List Int32) (y2 : Int32) (y3 : Int32) (v4 : Value), CI f A' R → (∀ k : Nat, k ≠ 80 → A' k = A0 k) → (0 ≤ y3.toInt ∧ y3.toInt ≤ 9) → pmE pg X pg_tyl pg_cl (d + 3) 171 162 [.ref 68, .int x1, .int y2, .int y3, v4] [] (cd f A' R wr) Q) : ∀ (m : Nat) (A : Nat → List Int32) (x2 : Int32) (x3 : Int32) (u4 : Value), CI f A R → (∀ k : Nat, k ≠ 80 → A k = A0 k) → (0 ≤ x3.toInt ∧ x3.toInt ≤ 9) → 9 - x3.toInt < (m : Int) → pmE pg X pg_tyl pg_cl (d + 3) 171 11 [.ref 68, .int x1, .int x2, .int x3, u4] [] (cd f A R wr) Q := by
  have bv := VV_b hv
  intro m
  induction m with
  | zero =>
    intro A x2 x3 u4 hI hF gx3 hm
    exfalso
    have l0 := zi_lo x3
    have u0 := zi_hi x3
    omega
  | succ m ih =>
    intro A x2 x3 u4 hI hF gx3 hm
    refine pe_iload_n (j := 3) (by decide +kernel) rfl ?_
    refine pe_aload_n (j := 0) (by decide +kernel) rfl ?_
    refine pe_get (j := 12) (ci := 10) (n := 0) (by decide +kernel) (by decide +kernel) cd_o68 rfl ?_
    refine pe_topV (v := .ref v) (hR3) ?_
    refine pe_get (j := 49) (ci := 9) (n := 0) (by decide +kernel) (by decide +kernel) (cv_o hv) rfl ?_
    have hr_f_16v := cv_people hv hI
    refine pz_icmp_ge (off := 143) (t := 162) (by decide +kernel) (by decide) rfl rfl rfl (fun h1 => ?_) (fun h1 => ?_)
    · skip
      exact k_162_0 A x2 x3 (u4) hI (fun k n80 => (hF k n80)) (by omega)
    · skip
      refine pe_iconstv (n := 0) (v := 0) (by decide +kernel) (by decide +kernel) ?_
      refine pe_istore (j := 4) (ls' := [.ref 68, .int x1, .int x2, .int x3, .int 0]) (by decide +kernel) (Nat.le_of_ble_eq_true rfl) rfl ?_
      refine CL_171_25 hX hv (hR3) (by omega) (fun A2 y3 hIy4 hFA2 gy3 => ?_) 10 A 0 hI (fun k _ => rfl) (by decide +kernel) (by decide +kernel)
      refine pe_aload_n (j := 0) (by decide +kernel) rfl ?_
      refine pe_get (j := 38) (ci := 10) (n := 6) (by decide +kernel) (by decide +kernel) cd_o68 rfl ?_
      refine pe_iload_n (j := 3) (by decide +kernel) rfl ?_
      refine pe_bipushv (n := 9) (v := 9) (by decide +kernel) (by decide +kernel) ?_
      refine pe_iload_n (j := 1) (by decide +kernel) rfl ?_
      refine pi_V (j := 72) (mj := 163) (by decide +kernel) (cll_V (args := [.int x1, .int 9, .int x3]) (n := 3) (by decide +kernel) rfl rfl cd_o79 (by decide +kernel) (Nat.le_of_ble_eq_true rfl) (Nat.le_of_ble_eq_true rfl)) ?_
      show pmE pg X pg_tyl pg_cl (d + 2) 163 0 [.ref 79, .int x3, .int 9, .int x1] [] (cd f A2 R wr) _
      refine pe_aload_n (j := 0) (by decide +kernel) rfl ?_
      refine pe_get (j := 11) (ci := 0) (n := 0) (by decide +kernel) (by decide +kernel) cd_o79 rfl ?_
      refine pe_iload_n (j := 1) (by decide +kernel) rfl ?_
      refine pe_bipushv (n := 12) (v := 12) (by decide +kernel) (by decide +kernel) ?_
      refine pz_mul (by decide +kernel) rfl kz_12 (by omega) (by omega) (fun z5 hz5 => ?_)
      refine pe_iload_n (j := 2) (by decide +kernel) rfl ?_
      refine pz_add (by decide +kernel) hz5 kz_9 (by omega) (by omega) (fun z6 hz6 => ?_)
      clear hz5
      refine pe_iload_n (j := 3) (by decide +kernel) rfl ?_
      refine cz_st80 (by decide +kernel) hIy4 hz6 (by omega) (by omega) (fun A7 eA7 hIA7 => ?_)
      refine pe_vret (by decide +kernel) rfl ⟨rfl, rfl, ?_⟩
      show pmE pg X pg_tyl pg_cl (d + 3) 171 91 [.ref 68, .int x1, .int x2, .int x3, .int y3] [] (cd f A7 R wr) _
      refine pe_aload_n (j := 0) (by decide +kernel) rfl ?_
      refine pe_get (j := 38) (ci := 10) (n := 6) (by decide +kernel) (by decide +kernel) cd_o68 rfl ?_
      refine pe_bipushv (n := 9) (v := 9) (by decide +kernel) (by decide +kernel) ?_
      refine pe_iload_n (j := 3) (by decide +kernel) rfl ?_
      refine pe_iload_n (j := 1) (by decide +kernel) rfl ?_
      refine pi_V (j := 72) (mj := 163) (by decide +kernel) (cll_V (args := [.int x1, .int x3, .int 9]) (n := 3) (by decide +kernel) rfl rfl cd_o79 (by decide +kernel) (Nat.le_of_ble_eq_true rfl) (Nat.le_of_ble_eq_true rfl)) ?_
      show pmE pg X pg_tyl pg_cl (d + 2) 163 0 [.ref 79, .int 9, .int x3, .int x1] [] (cd f A7 R wr) _
      refine pe_aload_n (j := 0) (by decide +kernel) rfl ?_
      refine pe_get (j := 11) (ci := 0) (n := 0) (by decide +kernel) (by decide +kernel) cd_o79 rfl ?_
      refine pe_iload_n (j := 1) (by decide +kernel) rfl ?_
      refine pe_bipushv (n := 12) (v := 12) (by decide +kernel) (by decide +kernel) ?_
      refine pe_imul (by decide +kernel) ?_
      refine pe_top (v := 108) (by decide +kernel) ?_
      refine pe_iload_n (j := 2) (by decide +kernel) rfl ?_
      refine pz_add (by decide +kernel) kz_108 rfl (by omega) (by omega) (fun z9 hz9 => ?_)
      refine pe_iload_n (j := 3) (by decide +kernel) rfl ?_
      refine cz_st80 (by decide +kernel) hIA7 hz9 (by omega) (by omega) (fun A10 eA10 hIA10 => ?_)
      refine pe_vret (by decide +kernel) rfl ⟨rfl, rfl, ?_⟩
      show pmE pg X pg_tyl pg_cl (d + 3) 171 102 [.ref 68, .int x1, .int x2, .int x3, .int y3] [] (cd f A10 R wr) _
      refine pe_aload_n (j := 0) (by decide +kernel) rfl ?_
      refine pe_get (j := 38) (ci := 10) (n := 6) (by decide +kernel) (by decide +kernel) cd_o68 rfl ?_
      refine pe_bipushv (n := 10) (v := 10) (by decide +kernel) (by decide +kernel) ?_
      refine pe_iload_n (j := 3) (by decide +kernel) rfl ?_
      refine pe_iconstv (n := 0) (v := 0) (by decide +kernel) (by decide +kernel) ?_
      refine pe_aload_n (j := 0) (by decide +kernel) rfl ?_
      refine pe_get (j := 25) (ci := 10) (n := 3) (by decide +kernel) (by decide +kernel) cd_o68 rfl ?_
      refine pe_iload_n (j := 3) (by decide +kernel) rfl ?_
      refine pz_iald (by decide +kernel) cd_a76 (cl_76 hIA10) rfl (by omega) (by omega) (fun v11 ev11 => ?_)
      rw [show A10 76 = A0 76 from (upa_fr eA10 (by decide)).trans ((upa_fr eA7 (by decide)).trans (((hFA2 76 (by decide))).trans ((hF 76 (by decide)))))] at ev11
      have hl13 := kz_0
      have lw14 := zi_lo v11
      have uw14 := zi_hi v11
      refine pz_max (j := 92) (c := 2147483647) (by decide +kernel) (by decide +kernel) (Nat.le_of_ble_eq_true rfl) kz_0 rfl (by omega) (by omega) (fun z12 hz12 => ?_)
      refine pi_V (j := 72) (mj := 163) (by decide +kernel) (cll_V (args := [.int z12, .int x3, .int 10]) (n := 3) (by decide +kernel) rfl rfl cd_o79 (by decide +kernel) (Nat.le_of_ble_eq_true rfl) (Nat.le_of_ble_eq_true rfl)) ?_
      show pmE pg X pg_tyl pg_cl (d + 2) 163 0 [.ref 79, .int 10, .int x3, .int z12] [] (cd f A10 R wr) _
      refine pe_aload_n (j := 0) (by decide +kernel) rfl ?_
      refine pe_get (j := 11) (ci := 0) (n := 0) (by decide +kernel) (by decide +kernel) cd_o79 rfl ?_
      refine pe_iload_n (j := 1) (by decide +kernel) rfl ?_
      refine pe_bipushv (n := 12) (v := 12) (by decide +kernel) (by decide +kernel) ?_
      refine pe_imul (by decide +kernel) ?_
      refine pe_top (v := 120) (by decide +kernel) ?_
      refine pe_iload_n (j := 2) (by decide +kernel) rfl ?_
      refine pz_add (by decide +kernel) kz_120 rfl (by omega) (by omega) (fun z16 hz16 => ?_)
      refine pe_iload_n (j := 3) (by decide +kernel) rfl ?_
      refine cz_st80 (by decide +kernel) hIA10 hz16 (by omega) (by omega) (fun A17 eA17 hIA17 => ?_)
      refine pe_vret (by decide +kernel) rfl ⟨rfl, rfl, ?_⟩
      show pmE pg X pg_tyl pg_cl (d + 3) 171 122 [.ref 68, .int x1, .int x2, .int x3, .int y3] [] (cd f A17 R wr) _
      refine pe_aload_n (j := 0) (by decide +kernel) rfl ?_
      refine pe_get (j := 38) (ci := 10) (n := 6) (by decide +kernel) (by decide +kernel) cd_o68 rfl ?_
      refine pe_iload_n (j := 3) (by decide +kernel) rfl ?_
      refine pe_bipushv (n := 11) (v := 11) (by decide +kernel) (by decide +kernel) ?_
      refine pe_iconstv (n := 0) (v := 0) (by decide +kernel) (by decide +kernel) ?_
      refine pe_aload_n (j := 0) (by decide +kernel) rfl ?_
      refine pe_get (j := 25) (ci := 10) (n := 3) (by decide +kernel) (by decide +kernel) cd_o68 rfl ?_
      refine pe_iload_n (j := 3) (by decide +kernel) rfl ?_
      refine pz_iald (by decide +kernel) cd_a76 (cl_76 hIA17) rfl (by omega) (by omega) (fun v18 ev18 => ?_)
      rw [show A17 76 = A0 76 from (upa_fr eA17 (by decide)).trans ((upa_fr eA10 (by decide)).trans ((upa_fr eA7 (by decide)).trans (((hFA2 76 (by decide))).trans ((hF 76 (by decide))))))] at ev18
      rw [ev18.trans ev11.symm]
      clear ev18 v18
      refine pw_neg (by decide +kernel) (fun z19 => ?_)
      have hl21 := kz_0
      have lw22 := zi_lo z19
      have uw22 := zi_hi z19
      refine pz_max (j := 92) (c := 2147483647) (by decide +kernel) (by decide +kernel) (Nat.le_of_ble_eq_true rfl) kz_0 rfl (by omega) (by omega) (fun z20 hz20 => ?_)
      refine pi_V (j := 72) (mj := 163) (by decide +kernel) (cll_V (args := [.int z20, .int 11, .int x3]) (n := 3) (by decide +kernel) rfl rfl cd_o79 (by decide +kernel) (Nat.le_of_ble_eq_true rfl) (Nat.le_of_ble_eq_true rfl)) ?_
      show pmE pg X pg_tyl pg_cl (d + 2) 163 0 [.ref 79, .int x3, .int 11, .int z20] [] (cd f A17 R wr) _
      refine pe_aload_n (j := 0) (by decide +kernel) rfl ?_
      refine pe_get (j := 11) (ci := 0) (n := 0) (by decide +kernel) (by decide +kernel) cd_o79 rfl ?_
      refine pe_iload_n (j := 1) (by decide +kernel) rfl ?_
      refine pe_bipushv (n := 12) (v := 12) (by decide +kernel) (by decide +kernel) ?_
      refine pz_mul (by decide +kernel) rfl kz_12 (by omega) (by omega) (fun z23 hz23 => ?_)
      refine pe_iload_n (j := 2) (by decide +kernel) rfl ?_
      refine pz_add (by decide +kernel) hz23 kz_11 (by omega) (by omega) (fun z24 hz24 => ?_)
      clear hz23
      refine pe_iload_n (j := 3) (by decide +kernel) rfl ?_
      refine cz_st80 (by decide +kernel) hIA17 hz24 (by omega) (by omega) (fun A25 eA25 hIA25 => ?_)
      refine pe_vret (by decide +kernel) rfl ⟨rfl, rfl, ?_⟩
      show pmE pg X pg_tyl pg_cl (d + 3) 171 143 [.ref 68, .int x1, .int x2, .int x3, .int y3] [] (cd f A25 R wr) _
      refine pe_iload_n (j := 2) (by decide +kernel) rfl ?_
      refine pe_iconstv (n := 0) (v := 0) (by decide +kernel) (by decide +kernel) ?_
      refine pe_aload_n (j := 0) (by decide +kernel) rfl ?_
      refine pe_get (j := 25) (ci := 10) (n := 3) (by decide +kernel) (by decide +kernel) cd_o68 rfl ?_
      refine pe_iload_n (j := 3) (by decide +kernel) rfl ?_
      refine pz_iald (by decide +kernel) cd_a76 (cl_76 hIA25) rfl (by omega) (by omega) (fun v26 ev26 => ?_)
      rw [show A25 76 = A0 76 from (upa_fr eA25 (by decide)).trans ((upa_fr eA17 (by decide)).trans ((upa_fr eA10 (by decide)).trans ((upa_fr eA7 (by decide)).trans (((hFA2 76 (by decide))).trans ((hF 76 (by decide)))))))] at ev26
      rw [ev26.trans ev11.symm]
      clear ev26 v26
      have hl28 := kz_0
      refine pz_max (j := 92) (c := 2147483647) (by decide +kernel) (by decide +kernel) (Nat.le_of_ble_eq_true rfl) kz_0 rfl (by omega) (by omega) (fun z27 hz27 => ?_)
      refine pw_add (by decide +kernel) (fun z29 => ?_)
      refine pe_istore_n (j := 2) (ls' := [.ref 68, .int x1, .int z29, .int x3, .int y3]) (by decide +kernel) (Nat.le_of_ble_eq_true rfl) rfl ?_
      refine pz_iinc (j := 3) (n := 1) (by decide +kernel) rfl rfl (by decide +kernel) (by omega) (by omega) (fun z30 hz30 => ?_)
      show pmE pg X pg_tyl pg_cl (d + 3) 171 159 [.ref 68, .int x1, .int z29, .int z30, .int y3] [] (cd f A25 R wr) _
      refine pe_goto (off := (-148)) (t := 11) (by decide +kernel) (by decide) rfl ?_
      exact ih A25 z29 z30 (.int y3) hIA25 (fun k n80 => (upa_fr eA25 n80).trans ((upa_fr eA17 n80).trans ((upa_fr eA10 n80).trans ((upa_fr eA7 n80).trans (((hFA2 k n80)).trans ((hF k n80))))))) (by omega) (by omega)
set_option maxRecDepth 100000 in
set_option maxHeartbeats 8000000 in
theorem CM_171 {X : pm_X} {d : Nat} {wr : pm_W} {f : Nat → Int32} {A : Nat → List Int32} {R : Nat → Value} {x1 : Int32} {v : Nat} (hX : XO X) (hI : CI f A R) (hv : VV v) (hR3 : R 3 = .ref v) : pmE pg X pg_tyl pg_cl (d + 3) 171 0 (pm_ent (pm_max pg 171) [.ref 68, .int x1]) [] (cd f A R wr) (fun q => ∃ (A' : Nat → List Int32) (r : Int32), q = (some (.int r), cd f A' R wr, 0, 0) ∧ CI f A' R ∧ (∀ k : Nat, k ≠ 80 → k ≠ 81 → k ≠ 82 → A' k = A k) ∧ ((True ∧ True))) := by
  have bv := VV_b hv
  show pmE pg X pg_tyl pg_cl (d + 3) 171 0 [.ref 68, .int x1, pm_dead, pm_dead, pm_dead] [] (cd f A R wr) _
  refine pe_aload_n (j := 0) (by decide +kernel) rfl ?_
  refine pe_get (j := 38) (ci := 10) (n := 6) (by decide +kernel) (by decide +kernel) cd_o68 rfl ?_
  refine pi_V (j := 69) (mj := 162) (by decide +kernel) (cll_V (args := []) (n := 0) (by decide +kernel) rfl rfl cd_o79 (by decide +kernel) (Nat.le_of_ble_eq_true rfl) (Nat.le_of_ble_eq_true rfl)) ?_
  show pmE pg X pg_tyl pg_cl (d + 2) 162 0 [.ref 79] [] (cd f A R wr) _
  refine pe_aload_n (j := 0) (by decide +kernel) rfl ?_
  refine pe_get (j := 11) (ci := 0) (n := 0) (by decide +kernel) (by decide +kernel) cd_o79 rfl ?_
  refine pe_iconstv (n := 0) (v := 0) (by decide +kernel) (by decide +kernel) ?_
  refine cz_fill (j := 21) (k := 80) (n := 144) (by decide +kernel) (by decide +kernel) rfl cd_a80 (fun _ => cd_s80) hI (cl_80 hI) (by decide +kernel) (ct_no (by decide +kernel)) (fun A1 eA1 hIA1 => ?_)
  refine pe_vret (by decide +kernel) rfl ⟨rfl, rfl, ?_⟩
  show pmE pg X pg_tyl pg_cl (d + 3) 171 7 [.ref 68, .int x1, pm_dead, pm_dead, pm_dead] [] (cd f A1 R wr) _
  refine pe_iconstv (n := 0) (v := 0) (by decide +kernel) (by decide +kernel) ?_
  refine pe_istore_n (j := 2) (ls' := [.ref 68, .int x1, .int 0, pm_dead, pm_dead]) (by decide +kernel) (Nat.le_of_ble_eq_true rfl) rfl ?_
  refine pe_iconstv (n := 0) (v := 0) (by decide +kernel) (by decide +kernel) ?_
  refine pe_istore_n (j := 3) (ls' := [.ref 68, .int x1, .int 0, .int 0, pm_dead]) (by decide +kernel) (Nat.le_of_ble_eq_true rfl) rfl ?_
  refine CL_171_11 hX hv (hR3) (fun A2 y3 y4 u5 hIy6 hFA2 gy4 => ?_) 10 A1 0 0 (pm_dead) hIA1 (fun k _ => rfl) (by decide +kernel) (by decide +kernel)
  refine pe_iload_n (j := 2) (by decide +kernel) rfl ?_
  refine pe_aload_n (j := 0) (by decide +kernel) rfl ?_
  refine pe_get (j := 38) (ci := 10) (n := 6) (by decide +kernel) (by decide +kernel) cd_o68 rfl ?_
  refine pe_bipushv (n := 10) (v := 10) (by decide +kernel) (by decide +kernel) ?_
  refine pe_bipushv (n := 11) (v := 11) (by decide +kernel) (by decide +kernel) ?_
  refine pz_callV (j := 76) (mj := 164) (by decide +kernel) (cll_V (args := [.int 11, .int 10]) (n := 2) (by decide +kernel) rfl rfl cd_o79 (by decide +kernel) (Nat.le_of_ble_eq_true rfl) (Nat.le_of_ble_eq_true rfl)) (CM_164 hX hIy6 (by decide +kernel) (by decide +kernel)) (fun q7a q7b q7c q7d hqq7 => ?_)
  obtain ⟨A8, rq7, eq7, hIq7, hFq7, kq7⟩ := hqq7
  cases eq7
  refine ⟨rfl, rfl, ?_⟩
  show pmE pg X pg_tyl pg_cl (d + 3) 171 174 [.ref 68, .int x1, .int y3, .int y4, u5] [.int rq7, .int y3] (cd f A8 R wr) _
  refine pw_sub (by decide +kernel) (fun z9 => ?_)
  exact pe_iret (by decide +kernel) rfl rfl ⟨A8, z9, rfl, hIq7, (fun k n80 n81 n82 => ((hFq7 k n80 n81 n82)).trans (((hFA2 k n80)).trans (upa_fr eA1 n80))), ⟨trivial, trivial⟩⟩
end
section
set_option maxRecDepth 100000 in
set_option maxHeartbeats 8000000 in
theorem CM_169 {X : pm_X} {d : Nat} {wr : pm_W} {f : Nat → Int32} {A : Nat → List Int32} {R : Nat → Value} {x1 x2 : Int32} {v : Nat} (hX : XO X) (hI : CI f A R) (hv : VV v) (hR3 : R 3 = .ref v) : pmE pg X pg_tyl pg_cl (d + 4) 169 0 (pm_ent (pm_max pg 169) [.ref 68, .int x1, .int x2]) [] (cd f A R wr) (fun q => ∃ (A' : Nat → List Int32) (r : Int32), q = (some (.int r), cd f A' R wr, 0, 0) ∧ CI f A' R ∧ (∀ k : Nat, k ≠ 75 → k ≠ 76 → k ≠ 80 → k ≠ 81 → k ≠ 82 → A' k = A k) ∧ ((r = 0 ∧ True) ∨ (r = 1 ∧ True))) := by
  have bv := VV_b hv
  show pmE pg X pg_tyl pg_cl (d + 4) 169 0 [.ref 68, .int x1, .int x2] [] (cd f A R wr) _
  refine pe_aload_n (j := 0) (by decide +kernel) rfl ?_
  refine pe_iload_n (j := 1) (by decide +kernel) rfl ?_
  refine pz_callV (j := 97) (mj := 170) (by decide +kernel) (cll_V (args := [.int x1]) (n := 1) (by decide +kernel) rfl rfl cd_o68 (by decide +kernel) (Nat.le_of_ble_eq_true rfl) (Nat.le_of_ble_eq_true rfl)) (CM_170 hX hI hv (hR3)) (fun q1a q1b q1c q1d hqq1 => ?_)
  obtain ⟨A2, rq1, eq1, hIq1, hFq1, kq1⟩ := hqq1
  cases eq1
  refine ⟨rfl, rfl, ?_⟩
  show pmE pg X pg_tyl pg_cl (d + 4) 169 5 [.ref 68, .int x1, .int x2] [.int rq1] (cd f A2 R wr) _
  have lw4 := zi_lo rq1
  have uw4 := zi_hi rq1
  refine pz_if_ne (off := 15) (t := 20) (by decide +kernel) (by decide) rfl rfl (fun h3 => ?_) (fun h3 => ?_)
  · skip
    refine pe_iconstv (n := 0) (v := 0) (by decide +kernel) (by decide +kernel) ?_
    exact pe_iret (by decide +kernel) rfl rfl ⟨A2, 0, rfl, hIq1, (fun k n75 n76 n80 n81 n82 => (hFq1 k n75 n76)), Or.inl ⟨rfl, trivial⟩⟩
  · skip
    refine pe_aload_n (j := 0) (by decide +kernel) rfl ?_
    refine pe_iload_n (j := 2) (by decide +kernel) rfl ?_
    refine pz_callV (j := 101) (mj := 171) (by decide +kernel) (cll_V (args := [.int x2]) (n := 1) (by decide +kernel) rfl rfl cd_o68 (by decide +kernel) (Nat.le_of_ble_eq_true rfl) (Nat.le_of_ble_eq_true rfl)) (CM_171 hX hIq1 hv (hR3)) (fun q5a q5b q5c q5d hqq5 => ?_)
    obtain ⟨A6, rq5, eq5, hIq5, hFq5, kq5⟩ := hqq5
    cases eq5
    refine ⟨rfl, rfl, ?_⟩
    show pmE pg X pg_tyl pg_cl (d + 4) 169 13 [.ref 68, .int x1, .int x2] [.int rq5] (cd f A6 R wr) _
    have lw8 := zi_lo rq5
    have uw8 := zi_hi rq5
    refine pz_if_ne (off := 7) (t := 20) (by decide +kernel) (by decide) rfl rfl (fun h7 => ?_) (fun h7 => ?_)
    · skip
      refine pe_iconstv (n := 0) (v := 0) (by decide +kernel) (by decide +kernel) ?_
      exact pe_iret (by decide +kernel) rfl rfl ⟨A6, 0, rfl, hIq5, (fun k n75 n76 n80 n81 n82 => ((hFq5 k n80 n81 n82)).trans ((hFq1 k n75 n76))), Or.inl ⟨rfl, trivial⟩⟩
    · skip
      refine pe_iconstv (n := 1) (v := 1) (by decide +kernel) (by decide +kernel) ?_
      refine pe_goto (off := 4) (t := 21) (by decide +kernel) (by decide) rfl ?_
      exact pe_iret (by decide +kernel) rfl rfl ⟨A6, 1, rfl, hIq5, (fun k n75 n76 n80 n81 n82 => ((hFq5 k n80 n81 n82)).trans ((hFq1 k n75 n76))), Or.inr (⟨rfl, trivial⟩)⟩
set_option maxRecDepth 100000 in
set_option maxHeartbeats 8000000 in
theorem CM_182 {X : pm_X} {d : Nat} {wr : pm_W} {f : Nat → Int32} {A : Nat → List Int32} {R : Nat → Value} {x1 : Int32} {v : Nat} (hX : XO X) (hI : CI f A R) (hv : VV v) (hR3 : R 3 = .ref v) : pmE pg X pg_tyl pg_cl (d + 4) 182 0 (pm_ent (pm_max pg 182) [.ref 68, .int x1]) [] (cd f A R wr) (fun q => ∃ (A' : Nat → List Int32) (r : Int32), q = (some (.int r), cd f A' R wr, 0, 0) ∧ CI f A' R ∧ (∀ k : Nat, k ≠ 75 → k ≠ 76 → k ≠ 80 → k ≠ 81 → k ≠ 82 → A' k = A k) ∧ ((True ∧ True))) := by
  have bv := VV_b hv
  show pmE pg X pg_tyl pg_cl (d + 4) 182 0 [.ref 68, .int x1] [] (cd f A R wr) _
  refine pe_aload_n (j := 0) (by decide +kernel) rfl ?_
  refine pe_iload_n (j := 1) (by decide +kernel) rfl ?_
  refine pz_callV (j := 97) (mj := 170) (by decide +kernel) (cll_V (args := [.int x1]) (n := 1) (by decide +kernel) rfl rfl cd_o68 (by decide +kernel) (Nat.le_of_ble_eq_true rfl) (Nat.le_of_ble_eq_true rfl)) (CM_170 hX hI hv (hR3)) (fun q1a q1b q1c q1d hqq1 => ?_)
  obtain ⟨A2, rq1, eq1, hIq1, hFq1, kq1⟩ := hqq1
  cases eq1
  refine ⟨rfl, rfl, ?_⟩
  show pmE pg X pg_tyl pg_cl (d + 4) 182 5 [.ref 68, .int x1] [.int rq1] (cd f A2 R wr) _
  refine pe_aload_n (j := 0) (by decide +kernel) rfl ?_
  refine pe_iconstv (n := 0) (v := 0) (by decide +kernel) (by decide +kernel) ?_
  refine pz_callV (j := 101) (mj := 171) (by decide +kernel) (cll_V (args := [.int 0]) (n := 1) (by decide +kernel) rfl rfl cd_o68 (by decide +kernel) (Nat.le_of_ble_eq_true rfl) (Nat.le_of_ble_eq_true rfl)) (CM_171 hX hIq1 hv (hR3)) (fun q3a q3b q3c q3d hqq3 => ?_)
  obtain ⟨A4, rq3, eq3, hIq3, hFq3, kq3⟩ := hqq3
  cases eq3
  refine ⟨rfl, rfl, ?_⟩
  show pmE pg X pg_tyl pg_cl (d + 4) 182 10 [.ref 68, .int x1] [.int rq3, .int rq1] (cd f A4 R wr) _
  refine pw_add (by decide +kernel) (fun z5 => ?_)
  exact pe_iret (by decide +kernel) rfl rfl ⟨A4, z5, rfl, hIq3, (fun k n75 n76 n80 n81 n82 => ((hFq3 k n80 n81 n82)).trans ((hFq1 k n75 n76))), ⟨trivial, trivial⟩⟩
set_option maxRecDepth 100000 in
set_option maxHeartbeats 8000000 in
theorem CM_175 {X : pm_X} {d : Nat} {wr : pm_W} {f : Nat → Int32} {A : Nat → List Int32} {R : Nat → Value} {x1 x2 : Int32} (hX : XO X) (hI : CI f A R) (gx1 : (0 ≤ x1.toInt ∧ x1.toInt ≤ 127)) (gx2 : (0 ≤ x2.toInt ∧ x2.toInt ≤ 127)) : pmE pg X pg_tyl pg_cl (d + 1) 175 0 (pm_ent (pm_max pg 175) [.ref 68, .int x1, .int x2]) [] (cd f A R wr) (fun q => ∃ (r : Int32), q = (some (.int r), cd f A R wr, 0, 0) ∧ ((r = 0 ∧ True) ∨ (r = 1 ∧ True))) := by
  show pmE pg X pg_tyl pg_cl (d + 1) 175 0 [.ref 68, .int x1, .int x2] [] (cd f A R wr) _
  refine pe_aload_n (j := 0) (by decide +kernel) rfl ?_
  refine pe_get (j := 28) (ci := 10) (n := 4) (by decide +kernel) (by decide +kernel) cd_o68 rfl ?_
  refine pe_iload_n (j := 1) (by decide +kernel) rfl ?_
  refine pz_iald (by decide +kernel) cd_a77 (cl_77 hI) rfl (by omega) (by omega) (fun v1 ev1 => ?_)
  refine pe_aload_n (j := 0) (by decide +kernel) rfl ?_
  refine pe_get (j := 28) (ci := 10) (n := 4) (by decide +kernel) (by decide +kernel) cd_o68 rfl ?_
  refine pe_iload_n (j := 2) (by decide +kernel) rfl ?_
  refine pz_iald (by decide +kernel) cd_a77 (cl_77 hI) rfl (by omega) (by omega) (fun v2 ev2 => ?_)
  have lw4 := zi_lo v1
  have uw4 := zi_hi v1
  have lw5 := zi_lo v2
  have uw5 := zi_hi v2
  refine pz_icmp_eq (off := 24) (t := 36) (by decide +kernel) (by decide) rfl rfl rfl (fun h3 => ?_) (fun h3 => ?_)
  · skip
    refine pe_iload_n (j := 1) (by decide +kernel) rfl ?_
    refine pi_S (j := 110) (mj := 176) (by decide +kernel) (by decide +kernel) rfl ?_
    show pmE pg X pg_tyl pg_cl (d) 176 0 [.int x1] [] (cd f A R wr) _
    refine pe_iload_n (j := 0) (by decide +kernel) rfl ?_
    refine pe_iload_n (j := 0) (by decide +kernel) rfl ?_
    refine pe_iconstv (n := 1) (v := 1) (by decide +kernel) (by decide +kernel) ?_
    refine pw_ushr (by decide +kernel) (fun z6 => ?_)
    refine pe_ldc_w (j := 265) (v := 1431655765) (by decide +kernel) (by decide +kernel) ?_
    refine pw_and (by decide +kernel) (fun z7 => ?_)
    refine pw_sub (by decide +kernel) (fun z8 => ?_)
    refine pe_istore_n (j := 0) (ls' := [.int z8]) (by decide +kernel) (Nat.le_of_ble_eq_true rfl) rfl ?_
    refine pe_iload_n (j := 0) (by decide +kernel) rfl ?_
    refine pe_ldc_w (j := 266) (v := 858993459) (by decide +kernel) (by decide +kernel) ?_
    refine pw_and (by decide +kernel) (fun z9 => ?_)
    refine pe_iload_n (j := 0) (by decide +kernel) rfl ?_
    refine pe_iconstv (n := 2) (v := 2) (by decide +kernel) (by decide +kernel) ?_
    refine pw_ushr (by decide +kernel) (fun z10 => ?_)
    refine pe_ldc_w (j := 266) (v := 858993459) (by decide +kernel) (by decide +kernel) ?_
    refine pw_and (by decide +kernel) (fun z11 => ?_)
    refine pw_add (by decide +kernel) (fun z12 => ?_)
    refine pe_istore_n (j := 0) (ls' := [.int z12]) (by decide +kernel) (Nat.le_of_ble_eq_true rfl) rfl ?_
    refine pe_iload_n (j := 0) (by decide +kernel) rfl ?_
    refine pe_iload_n (j := 0) (by decide +kernel) rfl ?_
    refine pe_iconstv (n := 4) (v := 4) (by decide +kernel) (by decide +kernel) ?_
    refine pw_ushr (by decide +kernel) (fun z13 => ?_)
    refine pw_add (by decide +kernel) (fun z14 => ?_)
    refine pe_ldc_w (j := 267) (v := 252645135) (by decide +kernel) (by decide +kernel) ?_
    refine pw_and (by decide +kernel) (fun z15 => ?_)
    refine pe_istore_n (j := 0) (ls' := [.int z15]) (by decide +kernel) (Nat.le_of_ble_eq_true rfl) rfl ?_
    refine pe_iload_n (j := 0) (by decide +kernel) rfl ?_
    refine pe_iload_n (j := 0) (by decide +kernel) rfl ?_
    refine pe_bipushv (n := 8) (v := 8) (by decide +kernel) (by decide +kernel) ?_
    refine pw_ushr (by decide +kernel) (fun z16 => ?_)
    refine pw_add (by decide +kernel) (fun z17 => ?_)
    refine pe_istore_n (j := 0) (ls' := [.int z17]) (by decide +kernel) (Nat.le_of_ble_eq_true rfl) rfl ?_
    refine pe_iload_n (j := 0) (by decide +kernel) rfl ?_
    refine pe_iload_n (j := 0) (by decide +kernel) rfl ?_
    refine pe_bipushv (n := 16) (v := 16) (by decide +kernel) (by decide +kernel) ?_
    refine pz_ushr16 (by decide +kernel) (fun z18 hz18 => ?_)
    refine pw_add (by decide +kernel) (fun z19 => ?_)
    refine pe_istore_n (j := 0) (ls' := [.int z19]) (by decide +kernel) (Nat.le_of_ble_eq_true rfl) rfl ?_
    refine pe_iload_n (j := 0) (by decide +kernel) rfl ?_
    refine pe_bipushv (n := 63) (v := 63) (by decide +kernel) (by decide +kernel) ?_
    refine pw_and (by decide +kernel) (fun z20 => ?_)
    refine pe_iret (by decide +kernel) rfl rfl ⟨rfl, rfl, ?_⟩
    show pmE pg X pg_tyl pg_cl (d + 1) 175 40 [.ref 68, .int x1, .int x2] [.int z20] (cd f A R wr) _
    refine pe_iload_n (j := 2) (by decide +kernel) rfl ?_
    refine pi_S (j := 110) (mj := 176) (by decide +kernel) (by decide +kernel) rfl ?_
    show pmE pg X pg_tyl pg_cl (d) 176 0 [.int x2] [] (cd f A R wr) _
    refine pe_iload_n (j := 0) (by decide +kernel) rfl ?_
    refine pe_iload_n (j := 0) (by decide +kernel) rfl ?_
    refine pe_iconstv (n := 1) (v := 1) (by decide +kernel) (by decide +kernel) ?_
    refine pw_ushr (by decide +kernel) (fun z21 => ?_)
    refine pe_ldc_w (j := 265) (v := 1431655765) (by decide +kernel) (by decide +kernel) ?_
    refine pw_and (by decide +kernel) (fun z22 => ?_)
    refine pw_sub (by decide +kernel) (fun z23 => ?_)
    refine pe_istore_n (j := 0) (ls' := [.int z23]) (by decide +kernel) (Nat.le_of_ble_eq_true rfl) rfl ?_
    refine pe_iload_n (j := 0) (by decide +kernel) rfl ?_
    refine pe_ldc_w (j := 266) (v := 858993459) (by decide +kernel) (by decide +kernel) ?_
    refine pw_and (by decide +kernel) (fun z24 => ?_)
    refine pe_iload_n (j := 0) (by decide +kernel) rfl ?_
    refine pe_iconstv (n := 2) (v := 2) (by decide +kernel) (by decide +kernel) ?_
    refine pw_ushr (by decide +kernel) (fun z25 => ?_)
    refine pe_ldc_w (j := 266) (v := 858993459) (by decide +kernel) (by decide +kernel) ?_
    refine pw_and (by decide +kernel) (fun z26 => ?_)
    refine pw_add (by decide +kernel) (fun z27 => ?_)
    refine pe_istore_n (j := 0) (ls' := [.int z27]) (by decide +kernel) (Nat.le_of_ble_eq_true rfl) rfl ?_
    refine pe_iload_n (j := 0) (by decide +kernel) rfl ?_
    refine pe_iload_n (j := 0) (by decide +kernel) rfl ?_
    refine pe_iconstv (n := 4) (v := 4) (by decide +kernel) (by decide +kernel) ?_
    refine pw_ushr (by decide +kernel) (fun z28 => ?_)
    refine pw_add (by decide +kernel) (fun z29 => ?_)
    refine pe_ldc_w (j := 267) (v := 252645135) (by decide +kernel) (by decide +kernel) ?_
    refine pw_and (by decide +kernel) (fun z30 => ?_)
    refine pe_istore_n (j := 0) (ls' := [.int z30]) (by decide +kernel) (Nat.le_of_ble_eq_true rfl) rfl ?_
    refine pe_iload_n (j := 0) (by decide +kernel) rfl ?_
    refine pe_iload_n (j := 0) (by decide +kernel) rfl ?_
    refine pe_bipushv (n := 8) (v := 8) (by decide +kernel) (by decide +kernel) ?_
    refine pw_ushr (by decide +kernel) (fun z31 => ?_)
    refine pw_add (by decide +kernel) (fun z32 => ?_)
    refine pe_istore_n (j := 0) (ls' := [.int z32]) (by decide +kernel) (Nat.le_of_ble_eq_true rfl) rfl ?_
    refine pe_iload_n (j := 0) (by decide +kernel) rfl ?_
    refine pe_iload_n (j := 0) (by decide +kernel) rfl ?_
    refine pe_bipushv (n := 16) (v := 16) (by decide +kernel) (by decide +kernel) ?_
    refine pz_ushr16 (by decide +kernel) (fun z33 hz33 => ?_)
    refine pw_add (by decide +kernel) (fun z34 => ?_)
    refine pe_istore_n (j := 0) (ls' := [.int z34]) (by decide +kernel) (Nat.le_of_ble_eq_true rfl) rfl ?_
    refine pe_iload_n (j := 0) (by decide +kernel) rfl ?_
    refine pe_bipushv (n := 63) (v := 63) (by decide +kernel) (by decide +kernel) ?_
    refine pw_and (by decide +kernel) (fun z35 => ?_)
    refine pe_iret (by decide +kernel) rfl rfl ⟨rfl, rfl, ?_⟩
    show pmE pg X pg_tyl pg_cl (d + 1) 175 44 [.ref 68, .int x1, .int x2] [.int z35, .int z20] (cd f A R wr) _
    have lw37 := zi_lo z20
    have uw37 := zi_hi z20
    have lw38 := zi_lo z35
    have uw38 := zi_hi z35
    refine pz_icmp_ge (off := 7) (t := 51) (by decide +kernel) (by decide) rfl rfl rfl (fun h36 => ?_) (fun h36 => ?_)
    · skip
      refine pe_iconstv (n := 0) (v := 0) (by decide +kernel) (by decide +kernel) ?_
      exact pe_iret (by decide +kernel) rfl rfl ⟨0, rfl, Or.inl ⟨rfl, trivial⟩⟩
    · skip
      refine pe_iconstv (n := 1) (v := 1) (by decide +kernel) (by decide +kernel) ?_
      refine pe_goto (off := 4) (t := 52) (by decide +kernel) (by decide) rfl ?_
      exact pe_iret (by decide +kernel) rfl rfl ⟨1, rfl, Or.inr (⟨rfl, trivial⟩)⟩
  · skip
    refine pe_aload_n (j := 0) (by decide +kernel) rfl ?_
    refine pe_get (j := 28) (ci := 10) (n := 4) (by decide +kernel) (by decide +kernel) cd_o68 rfl ?_
    refine pe_iload_n (j := 1) (by decide +kernel) rfl ?_
    refine pz_iald (by decide +kernel) cd_a77 (cl_77 hI) rfl (by omega) (by omega) (fun v39 ev39 => ?_)
    rw [ev39.trans ev1.symm]
    clear ev39 v39
    refine pe_aload_n (j := 0) (by decide +kernel) rfl ?_
    refine pe_get (j := 28) (ci := 10) (n := 4) (by decide +kernel) (by decide +kernel) cd_o68 rfl ?_
    refine pe_iload_n (j := 2) (by decide +kernel) rfl ?_
    refine pz_iald (by decide +kernel) cd_a77 (cl_77 hI) rfl (by omega) (by omega) (fun v40 ev40 => ?_)
    rw [ev40.trans ev2.symm]
    clear ev40 v40
    refine pz_icmp_le (off := 7) (t := 34) (by decide +kernel) (by decide) rfl rfl rfl (fun h41 => ?_) (fun h41 => ?_)
    · skip
      refine pe_iconstv (n := 0) (v := 0) (by decide +kernel) (by decide +kernel) ?_
      exact pe_iret (by decide +kernel) rfl rfl ⟨0, rfl, Or.inl ⟨rfl, trivial⟩⟩
    · skip
      refine pe_iconstv (n := 1) (v := 1) (by decide +kernel) (by decide +kernel) ?_
      refine pe_goto (off := 4) (t := 35) (by decide +kernel) (by decide) rfl ?_
      exact pe_iret (by decide +kernel) rfl rfl ⟨1, rfl, Or.inr (⟨rfl, trivial⟩)⟩
set_option maxRecDepth 100000 in
set_option maxHeartbeats 8000000 in
theorem CL_174_4 {X : pm_X} {d : Nat} {wr : pm_W} {Q : pm_R → Prop} {f : Nat → Int32} {A0 : Nat → List Int32} {R : Nat → Value} {x1 : Int32} {v : Nat} (hX : XO X) (hv : VV v) (hR3 : R 3 = .ref v) (k_38_0 : ∀ (A' : Nat → List Int32) (y2 : Int32) (y3 : Int32), CI f A' R → (∀ k : Nat, k ≠ 75 → k ≠ 76 → k ≠ 80 → k ≠ 81 → k ≠ 82 → A' k = A0 k) → (0 ≤ y2.toInt ∧ y2.toInt ≤ 127) → (1 ≤ y3.toInt ∧ y3.toInt ≤ 128) → pmE pg X pg_tyl pg_cl (d + 5) 174 38 [.ref 68, .int x1, .int y2, .int y3] [] (cd f A' R wr) Q) : ∀ (m : Nat) (A : Nat → List Int32) (x2 : Int32) (x3 : Int32), CI f A R → (∀ k : Nat, k ≠ 75 → k ≠ 76 → k ≠ 80 → k ≠ 81 → k ≠ 82 → A k = A0 k) → (0 ≤ x2.toInt ∧ x2.toInt ≤ 127) → (1 ≤ x3.toInt ∧ x3.toInt ≤ 128) → 128 - x3.toInt < (m : Int) → pmE pg X pg_tyl pg_cl (d + 5) 174 4 [.ref 68, .int x1, .int x2, .int x3] [] (cd f A R wr) Q := by
  have bv := VV_b hv
  intro m
  induction m with
  | zero =>
    intro A x2 x3 hI hF gx2 gx3 hm
    exfalso
    have l0 := zi_lo x3
    have u0 := zi_hi x3
    omega
  | succ m ih =>
    intro A x2 x3 hI hF gx2 gx3 hm
    refine pe_iload_n (j := 3) (by decide +kernel) rfl ?_
    refine pe_aload_n (j := 0) (by decide +kernel) rfl ?_
    refine pe_get (j := 63) (ci := 10) (n := 7) (by decide +kernel) (by decide +kernel) cd_o68 rfl ?_
    have hr_f_1095 := cf_1095 hI
    refine pz_icmp_ge (off := 29) (t := 38) (by decide +kernel) (by decide) rfl rfl rfl (fun h1 => ?_) (fun h1 => ?_)
    · skip
      exact k_38_0 A x2 x3 hI (fun k n75 n76 n80 n81 n82 => (hF k n75 n76 n80 n81 n82)) (by omega) (by omega)
    · skip
      refine pe_aload_n (j := 0) (by decide +kernel) rfl ?_
      refine pe_iload_n (j := 3) (by decide +kernel) rfl ?_
      refine pe_iload_n (j := 2) (by decide +kernel) rfl ?_
      refine pz_callV (j := 104) (mj := 175) (by decide +kernel) (cll_V (args := [.int x2, .int x3]) (n := 2) (by decide +kernel) rfl rfl cd_o68 (by decide +kernel) (Nat.le_of_ble_eq_true rfl) (Nat.le_of_ble_eq_true rfl)) (CM_175 hX hI (by omega) (by omega)) (fun q2a q2b q2c q2d hqq2 => ?_)
      obtain ⟨rq2, eq2, kq2⟩ := hqq2
      cases eq2
      refine ⟨rfl, rfl, ?_⟩
      rcases kq2 with kq2 | kq2
      · skip
        obtain ⟨erq2, kq2⟩ := kq2
        subst erq2
        show pmE pg X pg_tyl pg_cl (d + 5) 174 18 [.ref 68, .int x1, .int x2, .int x3] [.int 0] (cd f A R wr) _
        refine pz_if_eq (off := 14) (t := 32) (by decide +kernel) (by decide) rfl kz_0 (fun h3 => ?_) (fun h3 => by omega)
        refine pz_iinc (j := 3) (n := 1) (by decide +kernel) rfl rfl (by decide +kernel) (by omega) (by omega) (fun z4 hz4 => ?_)
        show pmE pg X pg_tyl pg_cl (d + 5) 174 35 [.ref 68, .int x1, .int x2, .int z4] [] (cd f A R wr) _
        refine pe_goto (off := (-31)) (t := 4) (by decide +kernel) (by decide) rfl ?_
        exact ih A x2 z4 hI (fun k n75 n76 n80 n81 n82 => (hF k n75 n76 n80 n81 n82)) (by omega) (by omega) (by omega)
      · skip
        obtain ⟨erq2, kq2⟩ := kq2
        subst erq2
        show pmE pg X pg_tyl pg_cl (d + 5) 174 18 [.ref 68, .int x1, .int x2, .int x3] [.int 1] (cd f A R wr) _
        refine pz_if_eq (off := 14) (t := 32) (by decide +kernel) (by decide) rfl kz_1 (fun h5 => by omega) (fun h5 => ?_)
        refine pe_aload_n (j := 0) (by decide +kernel) rfl ?_
        refine pe_iload_n (j := 3) (by decide +kernel) rfl ?_
        refine pe_iload_n (j := 1) (by decide +kernel) rfl ?_
        refine pz_callV (j := 107) (mj := 169) (by decide +kernel) (cll_V (args := [.int x1, .int x3]) (n := 2) (by decide +kernel) rfl rfl cd_o68 (by decide +kernel) (Nat.le_of_ble_eq_true rfl) (Nat.le_of_ble_eq_true rfl)) (CM_169 hX hI hv (hR3)) (fun q6a q6b q6c q6d hqq6 => ?_)
        obtain ⟨A7, rq6, eq6, hIq6, hFq6, kq6⟩ := hqq6
        cases eq6
        refine ⟨rfl, rfl, ?_⟩
        rcases kq6 with kq6 | kq6
        · skip
          obtain ⟨erq6, kq6⟩ := kq6
          subst erq6
          show pmE pg X pg_tyl pg_cl (d + 5) 174 27 [.ref 68, .int x1, .int x2, .int x3] [.int 0] (cd f A7 R wr) _
          refine pz_if_eq (off := 5) (t := 32) (by decide +kernel) (by decide) rfl kz_0 (fun h8 => ?_) (fun h8 => by omega)
          refine pz_iinc (j := 3) (n := 1) (by decide +kernel) rfl rfl (by decide +kernel) (by omega) (by omega) (fun z9 hz9 => ?_)
          show pmE pg X pg_tyl pg_cl (d + 5) 174 35 [.ref 68, .int x1, .int x2, .int z9] [] (cd f A7 R wr) _
          refine pe_goto (off := (-31)) (t := 4) (by decide +kernel) (by decide) rfl ?_
          exact ih A7 x2 z9 hIq6 (fun k n75 n76 n80 n81 n82 => ((hFq6 k n75 n76 n80 n81 n82)).trans ((hF k n75 n76 n80 n81 n82))) (by omega) (by omega) (by omega)
        · skip
          obtain ⟨erq6, kq6⟩ := kq6
          subst erq6
          show pmE pg X pg_tyl pg_cl (d + 5) 174 27 [.ref 68, .int x1, .int x2, .int x3] [.int 1] (cd f A7 R wr) _
          refine pz_if_eq (off := 5) (t := 32) (by decide +kernel) (by decide) rfl kz_1 (fun h10 => by omega) (fun h10 => ?_)
          refine pe_iload_n (j := 3) (by decide +kernel) rfl ?_
          refine pe_istore_n (j := 2) (ls' := [.ref 68, .int x1, .int x3, .int x3]) (by decide +kernel) (Nat.le_of_ble_eq_true rfl) rfl ?_
          refine pz_iinc (j := 3) (n := 1) (by decide +kernel) rfl rfl (by decide +kernel) (by omega) (by omega) (fun z11 hz11 => ?_)
          show pmE pg X pg_tyl pg_cl (d + 5) 174 35 [.ref 68, .int x1, .int x3, .int z11] [] (cd f A7 R wr) _
          refine pe_goto (off := (-31)) (t := 4) (by decide +kernel) (by decide) rfl ?_
          exact ih A7 x3 z11 hIq6 (fun k n75 n76 n80 n81 n82 => ((hFq6 k n75 n76 n80 n81 n82)).trans ((hF k n75 n76 n80 n81 n82))) (by omega) (by omega) (by omega)
set_option maxRecDepth 100000 in
set_option maxHeartbeats 8000000 in
theorem CM_174 {X : pm_X} {d : Nat} {wr : pm_W} {f : Nat → Int32} {A : Nat → List Int32} {R : Nat → Value} {x1 : Int32} {v : Nat} (hX : XO X) (hI : CI f A R) (hv : VV v) (hR3 : R 3 = .ref v) : pmE pg X pg_tyl pg_cl (d + 5) 174 0 (pm_ent (pm_max pg 174) [.ref 68, .int x1]) [] (cd f A R wr) (fun q => ∃ (A' : Nat → List Int32) (r : Int32), q = (some (.int r), cd f A' R wr, 0, 0) ∧ CI f A' R ∧ (∀ k : Nat, k ≠ 75 → k ≠ 76 → k ≠ 80 → k ≠ 81 → k ≠ 82 → A' k = A k) ∧ (((0 ≤ r.toInt ∧ r.toInt ≤ 127) ∧ True))) := by
  have bv := VV_b hv
  show pmE pg X pg_tyl pg_cl (d + 5) 174 0 [.ref 68, .int x1, pm_dead, pm_dead] [] (cd f A R wr) _
  refine pe_iconstv (n := 0) (v := 0) (by decide +kernel) (by decide +kernel) ?_
  refine pe_istore_n (j := 2) (ls' := [.ref 68, .int x1, .int 0, pm_dead]) (by decide +kernel) (Nat.le_of_ble_eq_true rfl) rfl ?_
  refine pe_iconstv (n := 1) (v := 1) (by decide +kernel) (by decide +kernel) ?_
  refine pe_istore_n (j := 3) (ls' := [.ref 68, .int x1, .int 0, .int 1]) (by decide +kernel) (Nat.le_of_ble_eq_true rfl) rfl ?_
  refine CL_174_4 hX hv (hR3) (fun A1 y2 y3 hIy4 hFA1 gy2 gy3 => ?_) 128 A 0 1 hI (fun k _ _ _ _ _ => rfl) (by decide +kernel) (by decide +kernel) (by decide +kernel)
  refine pe_iload_n (j := 2) (by decide +kernel) rfl ?_
  exact pe_iret (by decide +kernel) rfl rfl ⟨A1, y2, rfl, hIy4, (fun k n75 n76 n80 n81 n82 => (hFA1 k n75 n76 n80 n81 n82)), ⟨(by omega), trivial⟩⟩
set_option maxRecDepth 100000 in
set_option maxHeartbeats 8000000 in
theorem CM_178 {X : pm_X} {d : Nat} {wr : pm_W} {f : Nat → Int32} {A : Nat → List Int32} {R : Nat → Value} {x1 : Int32} {v : Nat} (hX : XO X) (hI : CI f A R) (hv : VV v) (hR3 : R 3 = .ref v) : pmE pg X pg_tyl pg_cl (d + 6) 178 0 (pm_ent (pm_max pg 178) [.ref 68, .int x1]) [] (cd f A R wr) (fun q => ∃ (A' : Nat → List Int32) (r : Int32), q = (some (.int r), cd f A' R wr, 0, 0) ∧ CI f A' R ∧ (∀ k : Nat, k ≠ 75 → k ≠ 76 → k ≠ 80 → k ≠ 81 → k ≠ 82 → A' k = A k) ∧ ((True ∧ True))) := by
  have bv := VV_b hv
  show pmE pg X pg_tyl pg_cl (d + 6) 178 0 [.ref 68, .int x1] [] (cd f A R wr) _
  refine pe_aload_n (j := 0) (by decide +kernel) rfl ?_
  refine pe_get (j := 28) (ci := 10) (n := 4) (by decide +kernel) (by decide +kernel) cd_o68 rfl ?_
  refine pe_aload_n (j := 0) (by decide +kernel) rfl ?_
  refine pe_iload_n (j := 1) (by decide +kernel) rfl ?_
  refine pz_callV (j := 115) (mj := 174) (by decide +kernel) (cll_V (args := [.int x1]) (n := 1) (by decide +kernel) rfl rfl cd_o68 (by decide +kernel) (Nat.le_of_ble_eq_true rfl) (Nat.le_of_ble_eq_true rfl)) (CM_174 hX hI hv (hR3)) (fun q1a q1b q1c q1d hqq1 => ?_)
  obtain ⟨A2, rq1, eq1, hIq1, hFq1, kq1⟩ := hqq1
  cases eq1
  refine ⟨rfl, rfl, ?_⟩
  show pmE pg X pg_tyl pg_cl (d + 6) 178 9 [.ref 68, .int x1] [.int rq1, .ref 77] (cd f A2 R wr) _
  refine pz_iald (by decide +kernel) cd_a77 (cl_77 hIq1) rfl (by omega) (by omega) (fun v3 ev3 => ?_)
  rw [show A2 77 = A 77 from (hFq1 77 (by decide) (by decide) (by decide) (by decide) (by decide))] at ev3
  exact pe_iret (by decide +kernel) rfl rfl ⟨A2, v3, rfl, hIq1, (fun k n75 n76 n80 n81 n82 => (hFq1 k n75 n76 n80 n81 n82)), ⟨trivial, trivial⟩⟩
set_option maxRecDepth 100000 in
set_option maxHeartbeats 8000000 in
theorem CL_188_16 {X : pm_X} {d : Nat} {wr : pm_W} {Q : pm_R → Prop} {f : Nat → Int32} {A0 : Nat → List Int32} {R : Nat → Value} {v : Nat} (hX : XO X) (hv : VV v) (hR3 : R 3 = .ref v) (k_63_0 : ∀ (A' : Nat → List Int32) (y1 : Int32), CI f A' R → (∀ k : Nat, k ≠ 75 → k ≠ 76 → k ≠ 78 → k ≠ 80 → k ≠ 81 → k ≠ 82 → A' k = A0 k) → (0 ≤ y1.toInt ∧ y1.toInt ≤ 128) → pmE pg X pg_tyl pg_cl (d + 6) 188 63 [.ref 68, .int y1] [] (cd f A' R wr) Q) : ∀ (m : Nat) (A : Nat → List Int32) (x1 : Int32), CI f A R → (∀ k : Nat, k ≠ 75 → k ≠ 76 → k ≠ 78 → k ≠ 80 → k ≠ 81 → k ≠ 82 → A k = A0 k) → (0 ≤ x1.toInt ∧ x1.toInt ≤ 128) → 128 - x1.toInt < (m : Int) → pmE pg X pg_tyl pg_cl (d + 6) 188 16 [.ref 68, .int x1] [] (cd f A R wr) Q := by
  have bv := VV_b hv
  intro m
  induction m with
  | zero =>
    intro A x1 hI hF gx1 hm
    exfalso
    have l0 := zi_lo x1
    have u0 := zi_hi x1
    omega
  | succ m ih =>
    intro A x1 hI hF gx1 hm
    refine pe_iload_n (j := 1) (by decide +kernel) rfl ?_
    refine pe_aload_n (j := 0) (by decide +kernel) rfl ?_
    refine pe_get (j := 63) (ci := 10) (n := 7) (by decide +kernel) (by decide +kernel) cd_o68 rfl ?_
    have hr_f_1095 := cf_1095 hI
    refine pz_icmp_ge (off := 42) (t := 63) (by decide +kernel) (by decide) rfl rfl rfl (fun h1 => ?_) (fun h1 => ?_)
    · skip
      exact k_63_0 A x1 hI (fun k n75 n76 n78 n80 n81 n82 => (hF k n75 n76 n78 n80 n81 n82)) (by omega)
    · skip
      refine pe_aload_n (j := 0) (by decide +kernel) rfl ?_
      refine pe_get (j := 31) (ci := 10) (n := 5) (by decide +kernel) (by decide +kernel) cd_o68 rfl ?_
      refine pe_iload_n (j := 1) (by decide +kernel) rfl ?_
      refine pe_aload_n (j := 0) (by decide +kernel) rfl ?_
      refine pe_get (j := 28) (ci := 10) (n := 4) (by decide +kernel) (by decide +kernel) cd_o68 rfl ?_
      refine pe_iload_n (j := 1) (by decide +kernel) rfl ?_
      refine pz_iald (by decide +kernel) cd_a77 (cl_77 hI) rfl (by omega) (by omega) (fun v2 ev2 => ?_)
      rw [show A 77 = A0 77 from (hF 77 (by decide) (by decide) (by decide) (by decide) (by decide) (by decide))] at ev2
      refine pe_aload_n (j := 0) (by decide +kernel) rfl ?_
      refine pe_get (j := 118) (ci := 10) (n := 8) (by decide +kernel) (by decide +kernel) cd_o68 rfl ?_
      have lw4 := zi_lo v2
      have uw4 := zi_hi v2
      have lw5 := zi_lo (f 1096)
      have uw5 := zi_hi (f 1096)
      refine pz_icmp_le (off := 16) (t := 55) (by decide +kernel) (by decide) rfl rfl rfl (fun h3 => ?_) (fun h3 => ?_)
      · skip
        refine pe_iconstv (n := 0) (v := 0) (by decide +kernel) (by decide +kernel) ?_
        refine cz_st78 (by decide +kernel) hI rfl (by omega) (by omega) (fun A6 eA6 hIA6 => ?_)
        refine pz_iinc (j := 1) (n := 1) (by decide +kernel) rfl rfl (by decide +kernel) (by omega) (by omega) (fun z7 hz7 => ?_)
        show pmE pg X pg_tyl pg_cl (d + 6) 188 60 [.ref 68, .int z7] [] (cd f A6 R wr) _
        refine pe_goto (off := (-44)) (t := 16) (by decide +kernel) (by decide) rfl ?_
        exact ih A6 z7 hIA6 (fun k n75 n76 n78 n80 n81 n82 => (upa_fr eA6 n78).trans ((hF k n75 n76 n78 n80 n81 n82))) (by omega) (by omega)
      · skip
        refine pe_aload_n (j := 0) (by decide +kernel) rfl ?_
        refine pe_iload_n (j := 1) (by decide +kernel) rfl ?_
        refine pz_callV (j := 121) (mj := 182) (by decide +kernel) (cll_V (args := [.int x1]) (n := 1) (by decide +kernel) rfl rfl cd_o68 (by decide +kernel) (Nat.le_of_ble_eq_true rfl) (Nat.le_of_ble_eq_true rfl)) (CM_182 hX hI hv (hR3)) (fun q8a q8b q8c q8d hqq8 => ?_)
        obtain ⟨A9, rq8, eq8, hIq8, hFq8, kq8⟩ := hqq8
        cases eq8
        refine ⟨rfl, rfl, ?_⟩
        show pmE pg X pg_tyl pg_cl (d + 6) 188 47 [.ref 68, .int x1] [.int rq8, .int x1, .ref 78] (cd f A9 R wr) _
        refine pe_iconstv (n := 1) (v := 1) (by decide +kernel) (by decide +kernel) ?_
        have lw11 := zi_lo rq8
        have uw11 := zi_hi rq8
        refine pz_icmp_ne (off := 7) (t := 55) (by decide +kernel) (by decide) rfl rfl kz_1 (fun h10 => ?_) (fun h10 => ?_)
        · skip
          refine pe_iconstv (n := 0) (v := 0) (by decide +kernel) (by decide +kernel) ?_
          refine cz_st78 (by decide +kernel) hIq8 rfl (by omega) (by omega) (fun A12 eA12 hIA12 => ?_)
          refine pz_iinc (j := 1) (n := 1) (by decide +kernel) rfl rfl (by decide +kernel) (by omega) (by omega) (fun z13 hz13 => ?_)
          show pmE pg X pg_tyl pg_cl (d + 6) 188 60 [.ref 68, .int z13] [] (cd f A12 R wr) _
          refine pe_goto (off := (-44)) (t := 16) (by decide +kernel) (by decide) rfl ?_
          exact ih A12 z13 hIA12 (fun k n75 n76 n78 n80 n81 n82 => (upa_fr eA12 n78).trans (((hFq8 k n75 n76 n80 n81 n82)).trans ((hF k n75 n76 n78 n80 n81 n82)))) (by omega) (by omega)
        · skip
          refine pe_iconstv (n := 1) (v := 1) (by decide +kernel) (by decide +kernel) ?_
          refine pe_goto (off := 4) (t := 56) (by decide +kernel) (by decide) rfl ?_
          refine cz_st78 (by decide +kernel) hIq8 rfl (by omega) (by omega) (fun A14 eA14 hIA14 => ?_)
          refine pz_iinc (j := 1) (n := 1) (by decide +kernel) rfl rfl (by decide +kernel) (by omega) (by omega) (fun z15 hz15 => ?_)
          show pmE pg X pg_tyl pg_cl (d + 6) 188 60 [.ref 68, .int z15] [] (cd f A14 R wr) _
          refine pe_goto (off := (-44)) (t := 16) (by decide +kernel) (by decide) rfl ?_
          exact ih A14 z15 hIA14 (fun k n75 n76 n78 n80 n81 n82 => (upa_fr eA14 n78).trans (((hFq8 k n75 n76 n80 n81 n82)).trans ((hF k n75 n76 n78 n80 n81 n82)))) (by omega) (by omega)
set_option maxRecDepth 100000 in
set_option maxHeartbeats 8000000 in
theorem CM_188 {X : pm_X} {d : Nat} {wr : pm_W} {f : Nat → Int32} {A : Nat → List Int32} {R : Nat → Value} {v : Nat} (hX : XO X) (hI : CI f A R) (hv : VV v) (hR3 : R 3 = .ref v) : pmE pg X pg_tyl pg_cl (d + 6) 188 0 (pm_ent (pm_max pg 188) [.ref 68]) [] (cd f A R wr) (fun q => ∃ (f' : Nat → Int32) (A' : Nat → List Int32), q = (none, cd f' A' R wr, 0, 0) ∧ CI f' A' R ∧ (∀ k : Nat, k ≠ 1096 → f' k = f k) ∧ (∀ k : Nat, k ≠ 75 → k ≠ 76 → k ≠ 78 → k ≠ 80 → k ≠ 81 → k ≠ 82 → A' k = A k) ∧ ((True))) := by
  have bv := VV_b hv
  show pmE pg X pg_tyl pg_cl (d + 6) 188 0 [.ref 68, pm_dead] [] (cd f A R wr) _
  refine pe_aload_n (j := 0) (by decide +kernel) rfl ?_
  refine pe_aload_n (j := 0) (by decide +kernel) rfl ?_
  refine pe_get (j := 28) (ci := 10) (n := 4) (by decide +kernel) (by decide +kernel) cd_o68 rfl ?_
  refine pe_aload_n (j := 0) (by decide +kernel) rfl ?_
  refine pe_iconstv (n := 0) (v := 0) (by decide +kernel) (by decide +kernel) ?_
  refine pz_callV (j := 115) (mj := 174) (by decide +kernel) (cll_V (args := [.int 0]) (n := 1) (by decide +kernel) rfl rfl cd_o68 (by decide +kernel) (Nat.le_of_ble_eq_true rfl) (Nat.le_of_ble_eq_true rfl)) (CM_174 hX hI hv (hR3)) (fun q1a q1b q1c q1d hqq1 => ?_)
  obtain ⟨A2, rq1, eq1, hIq1, hFq1, kq1⟩ := hqq1
  cases eq1
  refine ⟨rfl, rfl, ?_⟩
  show pmE pg X pg_tyl pg_cl (d + 6) 188 10 [.ref 68, pm_dead] [.int rq1, .ref 77, .ref 68] (cd f A2 R wr) _
  refine pz_iald (by decide +kernel) cd_a77 (cl_77 hIq1) rfl (by omega) (by omega) (fun v3 ev3 => ?_)
  rw [show A2 77 = A 77 from (hFq1 77 (by decide) (by decide) (by decide) (by decide) (by decide))] at ev3
  refine cz_put1096 (jj := 118) (by decide +kernel) (by decide +kernel) hIq1 (fun f4 ef4 hIf4 => ?_)
  refine pe_iconstv (n := 0) (v := 0) (by decide +kernel) (by decide +kernel) ?_
  refine pe_istore_n (j := 1) (ls' := [.ref 68, .int 0]) (by decide +kernel) (Nat.le_of_ble_eq_true rfl) rfl ?_
  refine CL_188_16 hX hv (hR3) (fun A5 y6 hIy7 hFA5 gy6 => ?_) 129 A2 0 hIf4 (fun k _ _ _ _ _ _ => rfl) (by decide +kernel) (by decide +kernel)
  exact pe_vret (by decide +kernel) rfl ⟨f4, A5, rfl, hIy7, (fun k n1096 => upf_fr ef4 n1096), (fun k n75 n76 n78 n80 n81 n82 => ((hFA5 k n75 n76 n78 n80 n81 n82)).trans ((hFq1 k n75 n76 n80 n81 n82))), trivial⟩
set_option maxRecDepth 100000 in
set_option maxHeartbeats 8000000 in
theorem CL_189_22 {X : pm_X} {d : Nat} {wr : pm_W} {Q : pm_R → Prop} {f : Nat → Int32} {A0 : Nat → List Int32} {R : Nat → Value} {x1 x2 : Int32} {v : Nat} (hX : XO X) (hv : VV v) (hR3 : R 3 = .ref v) (gx1 : (0 ≤ x1.toInt ∧ x1.toInt ≤ 8)) (gx2 : (0 ≤ x2.toInt ∧ x2.toInt ≤ 8)) (k_76_0 : ∀ (A' : Nat → List Int32) (y3 : Int32) (y4 : Int32), CI f A' R → (∀ k : Nat, k ≠ 75 → k ≠ 76 → k ≠ 80 → k ≠ 81 → k ≠ 82 → A' k = A0 k) → (0 ≤ y4.toInt ∧ y4.toInt ≤ 128) → pmE pg X pg_tyl pg_cl (d + 5) 189 76 [.ref 68, .int x1, .int x2, .int y3, .int y4] [] (cd f A' R wr) Q) : ∀ (m : Nat) (A : Nat → List Int32) (x3 : Int32) (x4 : Int32), CI f A R → (∀ k : Nat, k ≠ 75 → k ≠ 76 → k ≠ 80 → k ≠ 81 → k ≠ 82 → A k = A0 k) → (0 ≤ x4.toInt ∧ x4.toInt ≤ 128) → 128 - x4.toInt < (m : Int) → pmE pg X pg_tyl pg_cl (d + 5) 189 22 [.ref 68, .int x1, .int x2, .int x3, .int x4] [] (cd f A R wr) Q := by
  have bv := VV_b hv
  intro m
  induction m with
  | zero =>
    intro A x3 x4 hI hF gx4 hm
    exfalso
    have l0 := zi_lo x4
    have u0 := zi_hi x4
    omega
  | succ m ih =>
    intro A x3 x4 hI hF gx4 hm
    refine pe_iload (j := 4) (by decide +kernel) rfl ?_
    refine pe_aload_n (j := 0) (by decide +kernel) rfl ?_
    refine pe_get (j := 63) (ci := 10) (n := 7) (by decide +kernel) (by decide +kernel) cd_o68 rfl ?_
    have hr_f_1095 := cf_1095 hI
    refine pz_icmp_ge (off := 48) (t := 76) (by decide +kernel) (by decide) rfl rfl rfl (fun h1 => ?_) (fun h1 => ?_)
    · skip
      exact k_76_0 A x3 x4 hI (fun k n75 n76 n80 n81 n82 => (hF k n75 n76 n80 n81 n82)) (by omega)
    · skip
      refine pe_aload_n (j := 0) (by decide +kernel) rfl ?_
      refine pe_get (j := 31) (ci := 10) (n := 5) (by decide +kernel) (by decide +kernel) cd_o68 rfl ?_
      refine pe_iload (j := 4) (by decide +kernel) rfl ?_
      refine pz_zald (by decide +kernel) cd_a78 (cl_78 hI) rfl (by omega) (by omega) (fun v2 ev2 => ?_)
      have rv2 : 0 ≤ v2.toInt ∧ v2.toInt ≤ 1 := ct_78 hI ev2
      rw [show A 78 = A0 78 from (hF 78 (by decide) (by decide) (by decide) (by decide) (by decide))] at ev2
      refine pz_if_eq (off := 32) (t := 70) (by decide +kernel) (by decide) rfl rfl (fun h3 => ?_) (fun h3 => ?_)
      · skip
        refine pz_iinc (j := 4) (n := 1) (by decide +kernel) rfl rfl (by decide +kernel) (by omega) (by omega) (fun z4 hz4 => ?_)
        show pmE pg X pg_tyl pg_cl (d + 5) 189 73 [.ref 68, .int x1, .int x2, .int x3, .int z4] [] (cd f A R wr) _
        refine pe_goto (off := (-51)) (t := 22) (by decide +kernel) (by decide) rfl ?_
        exact ih A x3 z4 hI (fun k n75 n76 n80 n81 n82 => (hF k n75 n76 n80 n81 n82)) (by omega) (by omega)
      · skip
        refine pe_aload_n (j := 0) (by decide +kernel) rfl ?_
        refine pe_get (j := 28) (ci := 10) (n := 4) (by decide +kernel) (by decide +kernel) cd_o68 rfl ?_
        refine pe_iload (j := 4) (by decide +kernel) rfl ?_
        refine pz_iald (by decide +kernel) cd_a77 (cl_77 hI) rfl (by omega) (by omega) (fun v5 ev5 => ?_)
        rw [show A 77 = A0 77 from (hF 77 (by decide) (by decide) (by decide) (by decide) (by decide))] at ev5
        refine pe_iload_n (j := 3) (by decide +kernel) rfl ?_
        have lw7 := zi_lo v5
        have uw7 := zi_hi v5
        have lw8 := zi_lo x3
        have uw8 := zi_hi x3
        refine pz_icmp_le (off := 21) (t := 70) (by decide +kernel) (by decide) rfl rfl rfl (fun h6 => ?_) (fun h6 => ?_)
        · skip
          refine pz_iinc (j := 4) (n := 1) (by decide +kernel) rfl rfl (by decide +kernel) (by omega) (by omega) (fun z9 hz9 => ?_)
          show pmE pg X pg_tyl pg_cl (d + 5) 189 73 [.ref 68, .int x1, .int x2, .int x3, .int z9] [] (cd f A R wr) _
          refine pe_goto (off := (-51)) (t := 22) (by decide +kernel) (by decide) rfl ?_
          exact ih A x3 z9 hI (fun k n75 n76 n80 n81 n82 => (hF k n75 n76 n80 n81 n82)) (by omega) (by omega)
        · skip
          refine pe_aload_n (j := 0) (by decide +kernel) rfl ?_
          refine pe_iload (j := 4) (by decide +kernel) rfl ?_
          refine pe_iconstv (n := 0) (v := 0) (by decide +kernel) (by decide +kernel) ?_
          refine pz_callV (j := 107) (mj := 169) (by decide +kernel) (cll_V (args := [.int 0, .int x4]) (n := 2) (by decide +kernel) rfl rfl cd_o68 (by decide +kernel) (Nat.le_of_ble_eq_true rfl) (Nat.le_of_ble_eq_true rfl)) (CM_169 hX hI hv (hR3)) (fun q10a q10b q10c q10d hqq10 => ?_)
          obtain ⟨A11, rq10, eq10, hIq10, hFq10, kq10⟩ := hqq10
          cases eq10
          refine ⟨rfl, rfl, ?_⟩
          rcases kq10 with kq10 | kq10
          · skip
            obtain ⟨erq10, kq10⟩ := kq10
            subst erq10
            show pmE pg X pg_tyl pg_cl (d + 5) 189 59 [.ref 68, .int x1, .int x2, .int x3, .int x4] [.int 0] (cd f A11 R wr) _
            refine pz_if_eq (off := 11) (t := 70) (by decide +kernel) (by decide) rfl kz_0 (fun h12 => ?_) (fun h12 => by omega)
            refine pz_iinc (j := 4) (n := 1) (by decide +kernel) rfl rfl (by decide +kernel) (by omega) (by omega) (fun z13 hz13 => ?_)
            show pmE pg X pg_tyl pg_cl (d + 5) 189 73 [.ref 68, .int x1, .int x2, .int x3, .int z13] [] (cd f A11 R wr) _
            refine pe_goto (off := (-51)) (t := 22) (by decide +kernel) (by decide) rfl ?_
            exact ih A11 x3 z13 hIq10 (fun k n75 n76 n80 n81 n82 => ((hFq10 k n75 n76 n80 n81 n82)).trans ((hF k n75 n76 n80 n81 n82))) (by omega) (by omega)
          · skip
            obtain ⟨erq10, kq10⟩ := kq10
            subst erq10
            show pmE pg X pg_tyl pg_cl (d + 5) 189 59 [.ref 68, .int x1, .int x2, .int x3, .int x4] [.int 1] (cd f A11 R wr) _
            refine pz_if_eq (off := 11) (t := 70) (by decide +kernel) (by decide) rfl kz_1 (fun h14 => by omega) (fun h14 => ?_)
            refine pe_aload_n (j := 0) (by decide +kernel) rfl ?_
            refine pe_get (j := 28) (ci := 10) (n := 4) (by decide +kernel) (by decide +kernel) cd_o68 rfl ?_
            refine pe_iload (j := 4) (by decide +kernel) rfl ?_
            refine pz_iald (by decide +kernel) cd_a77 (cl_77 hIq10) rfl (by omega) (by omega) (fun v15 ev15 => ?_)
            rw [show A11 77 = A0 77 from ((hFq10 77 (by decide) (by decide) (by decide) (by decide) (by decide))).trans ((hF 77 (by decide) (by decide) (by decide) (by decide) (by decide)))] at ev15
            rw [ev15.trans ev5.symm]
            clear ev15 v15
            refine pe_istore_n (j := 3) (ls' := [.ref 68, .int x1, .int x2, .int v5, .int x4]) (by decide +kernel) (Nat.le_of_ble_eq_true rfl) rfl ?_
            refine pz_iinc (j := 4) (n := 1) (by decide +kernel) rfl rfl (by decide +kernel) (by omega) (by omega) (fun z16 hz16 => ?_)
            show pmE pg X pg_tyl pg_cl (d + 5) 189 73 [.ref 68, .int x1, .int x2, .int v5, .int z16] [] (cd f A11 R wr) _
            refine pe_goto (off := (-51)) (t := 22) (by decide +kernel) (by decide) rfl ?_
            exact ih A11 v5 z16 hIq10 (fun k n75 n76 n80 n81 n82 => ((hFq10 k n75 n76 n80 n81 n82)).trans ((hF k n75 n76 n80 n81 n82))) (by omega) (by omega)
set_option maxRecDepth 100000 in
set_option maxHeartbeats 8000000 in
theorem CM_189 {X : pm_X} {d : Nat} {wr : pm_W} {f : Nat → Int32} {A : Nat → List Int32} {R : Nat → Value} {x1 x2 : Int32} {v : Nat} (hX : XO X) (hI : CI f A R) (hv : VV v) (hR3 : R 3 = .ref v) (gx1 : (0 ≤ x1.toInt ∧ x1.toInt ≤ 8)) (gx2 : (0 ≤ x2.toInt ∧ x2.toInt ≤ 8)) : pmE pg X pg_tyl pg_cl (d + 5) 189 0 (pm_ent (pm_max pg 189) [.ref 68, .int x1, .int x2]) [] (cd f A R wr) (fun q => ∃ (A' : Nat → List Int32) (r : Int32), q = (some (.int r), cd f A' R wr, 0, 0) ∧ CI f A' R ∧ (∀ k : Nat, k ≠ 74 → k ≠ 75 → k ≠ 76 → k ≠ 80 → k ≠ 81 → k ≠ 82 → A' k = A k) ∧ ((True ∧ True))) := by
  have bv := VV_b hv
  show pmE pg X pg_tyl pg_cl (d + 5) 189 0 [.ref 68, .int x1, .int x2, pm_dead, pm_dead] [] (cd f A R wr) _
  refine pe_aload_n (j := 0) (by decide +kernel) rfl ?_
  refine pe_get (j := 118) (ci := 10) (n := 8) (by decide +kernel) (by decide +kernel) cd_o68 rfl ?_
  refine pe_istore_n (j := 3) (ls' := [.ref 68, .int x1, .int x2, .int (f 1096), pm_dead]) (by decide +kernel) (Nat.le_of_ble_eq_true rfl) rfl ?_
  refine pe_aload_n (j := 0) (by decide +kernel) rfl ?_
  refine pe_get (j := 18) (ci := 10) (n := 1) (by decide +kernel) (by decide +kernel) cd_o68 rfl ?_
  refine pe_iload_n (j := 1) (by decide +kernel) rfl ?_
  refine pe_iload_n (j := 2) (by decide +kernel) rfl ?_
  refine pi_S (j := 53) (mj := 52) (by decide +kernel) (by decide +kernel) rfl ?_
  show pmE pg X pg_tyl pg_cl (d + 4) 52 0 [.int x1, .int x2] [] (cd f A R wr) _
  refine pe_iload_n (j := 0) (by decide +kernel) rfl ?_
  refine pe_bipushv (n := 9) (v := 9) (by decide +kernel) (by decide +kernel) ?_
  refine pz_mul (by decide +kernel) rfl kz_9 (by omega) (by omega) (fun z1 hz1 => ?_)
  refine pe_iload_n (j := 1) (by decide +kernel) rfl ?_
  refine pz_add (by decide +kernel) hz1 rfl (by omega) (by omega) (fun z2 hz2 => ?_)
  clear hz1
  refine pe_iret (by decide +kernel) rfl rfl ⟨rfl, rfl, ?_⟩
  show pmE pg X pg_tyl pg_cl (d + 5) 189 14 [.ref 68, .int x1, .int x2, .int (f 1096), pm_dead] [.int z2, .ref 74] (cd f A R wr) _
  refine pe_dup2 (by decide +kernel) ⟨rfl, rfl⟩ ?_
  refine pz_iald (by decide +kernel) cd_a74 (cl_74 hI) hz2 (by omega) (by omega) (fun v3 ev3 => ?_)
  refine pe_iconstv (n := 1) (v := 1) (by decide +kernel) (by decide +kernel) ?_
  refine pw_add (by decide +kernel) (fun z4 => ?_)
  refine cz_st74 (by decide +kernel) hI hz2 (by omega) (by omega) (fun A5 eA5 hIA5 => ?_)
  refine pe_iconstv (n := 0) (v := 0) (by decide +kernel) (by decide +kernel) ?_
  refine pe_istore (j := 4) (ls' := [.ref 68, .int x1, .int x2, .int (f 1096), .int 0]) (by decide +kernel) (Nat.le_of_ble_eq_true rfl) rfl ?_
  refine CL_189_22 hX hv (hR3) (by omega) (by omega) (fun A6 y7 y8 hIy9 hFA6 gy8 => ?_) 129 A5 (f 1096) 0 hIA5 (fun k _ _ _ _ _ => rfl) (by decide +kernel) (by decide +kernel)
  refine pe_aload_n (j := 0) (by decide +kernel) rfl ?_
  refine pe_get (j := 18) (ci := 10) (n := 1) (by decide +kernel) (by decide +kernel) cd_o68 rfl ?_
  refine pe_iload_n (j := 1) (by decide +kernel) rfl ?_
  refine pe_iload_n (j := 2) (by decide +kernel) rfl ?_
  refine pi_S (j := 53) (mj := 52) (by decide +kernel) (by decide +kernel) rfl ?_
  show pmE pg X pg_tyl pg_cl (d + 4) 52 0 [.int x1, .int x2] [] (cd f A6 R wr) _
  refine pe_iload_n (j := 0) (by decide +kernel) rfl ?_
  refine pe_bipushv (n := 9) (v := 9) (by decide +kernel) (by decide +kernel) ?_
  refine pz_mul (by decide +kernel) rfl kz_9 (by omega) (by omega) (fun z10 hz10 => ?_)
  refine pe_iload_n (j := 1) (by decide +kernel) rfl ?_
  refine pz_add (by decide +kernel) hz10 rfl (by omega) (by omega) (fun z11 hz11 => ?_)
  clear hz10
  refine pe_iret (by decide +kernel) rfl rfl ⟨rfl, rfl, ?_⟩
  show pmE pg X pg_tyl pg_cl (d + 5) 189 85 [.ref 68, .int x1, .int x2, .int y7, .int y8] [.int z11, .ref 74] (cd f A6 R wr) _
  refine pe_dup2 (by decide +kernel) ⟨rfl, rfl⟩ ?_
  refine pz_iald (by decide +kernel) cd_a74 (cl_74 hIy9) hz11 (by omega) (by omega) (fun v12 ev12 => ?_)
  rw [show A6 74 = A5 74 from (hFA6 74 (by decide) (by decide) (by decide) (by decide) (by decide))] at ev12
  refine pe_iconstv (n := 1) (v := 1) (by decide +kernel) (by decide +kernel) ?_
  refine pw_sub (by decide +kernel) (fun z13 => ?_)
  refine cz_st74 (by decide +kernel) hIy9 hz11 (by omega) (by omega) (fun A14 eA14 hIA14 => ?_)
  refine pe_iload_n (j := 3) (by decide +kernel) rfl ?_
  refine pe_aload_n (j := 0) (by decide +kernel) rfl ?_
  refine pe_get (j := 118) (ci := 10) (n := 8) (by decide +kernel) (by decide +kernel) cd_o68 rfl ?_
  refine pw_sub (by decide +kernel) (fun z15 => ?_)
  exact pe_iret (by decide +kernel) rfl rfl ⟨A14, z15, rfl, hIA14, (fun k n74 n75 n76 n80 n81 n82 => (upa_fr eA14 n74).trans (((hFA6 k n75 n76 n80 n81 n82)).trans (upa_fr eA5 n74))), ⟨trivial, trivial⟩⟩
set_option maxRecDepth 100000 in
set_option maxHeartbeats 8000000 in
theorem CL_191_20 {X : pm_X} {d : Nat} {wr : pm_W} {Q : pm_R → Prop} {f : Nat → Int32} {A0 : Nat → List Int32} {R : Nat → Value} {x3 : Int32} {v : Nat} (hX : XO X) (hv : VV v) (hR3 : R 3 = .ref v) (gx3 : (0 ≤ x3.toInt ∧ x3.toInt ≤ 8)) (k_73_0 : ∀ (A' : Nat → List Int32) (y1 : Int32) (y2 : Int32) (y4 : Int32) (v5 : Value), CI f A' R → (∀ k : Nat, k ≠ 74 → k ≠ 75 → k ≠ 76 → k ≠ 80 → k ≠ 81 → k ≠ 82 → A' k = A0 k) → ((-1) ≤ y1.toInt) → (0 ≤ y2.toInt) → (0 ≤ y4.toInt ∧ y4.toInt ≤ 9) → pmE pg X pg_tyl pg_cl (d + 6) 191 73 [.ref 68, .int y1, .int y2, .int x3, .int y4, v5] [] (cd f A' R wr) Q) : ∀ (m : Nat) (A : Nat → List Int32) (x1 : Int32) (x2 : Int32) (x4 : Int32) (u5 : Value), CI f A R → (∀ k : Nat, k ≠ 74 → k ≠ 75 → k ≠ 76 → k ≠ 80 → k ≠ 81 → k ≠ 82 → A k = A0 k) → ((-1) ≤ x1.toInt) → (0 ≤ x2.toInt) → (0 ≤ x4.toInt ∧ x4.toInt ≤ 9) → 9 - x4.toInt < (m : Int) → pmE pg X pg_tyl pg_cl (d + 6) 191 20 [.ref 68, .int x1, .int x2, .int x3, .int x4, u5] [] (cd f A R wr) Q := by
  have bv := VV_b hv
  intro m
  induction m with
  | zero =>
    intro A x1 x2 x4 u5 hI hF gx1 gx2 gx4 hm
    exfalso
    have l0 := zi_lo x4
    have u0 := zi_hi x4
    omega
  | succ m ih =>
    intro A x1 x2 x4 u5 hI hF gx1 gx2 gx4 hm
    refine pe_iload (j := 4) (by decide +kernel) rfl ?_
    refine pe_aload_n (j := 0) (by decide +kernel) rfl ?_
    refine pe_get (j := 12) (ci := 10) (n := 0) (by decide +kernel) (by decide +kernel) cd_o68 rfl ?_
    refine pe_topV (v := .ref v) (hR3) ?_
    refine pe_get (j := 49) (ci := 9) (n := 0) (by decide +kernel) (by decide +kernel) (cv_o hv) rfl ?_
    have hr_f_16v := cv_people hv hI
    refine pz_icmp_ge (off := 44) (t := 73) (by decide +kernel) (by decide) rfl rfl rfl (fun h1 => ?_) (fun h1 => ?_)
    · skip
      exact k_73_0 A x1 x2 x4 (u5) hI (fun k n74 n75 n76 n80 n81 n82 => (hF k n74 n75 n76 n80 n81 n82)) (by omega) (by omega) (by omega)
    · skip
      refine pe_iload_n (j := 3) (by decide +kernel) rfl ?_
      refine pe_iload (j := 4) (by decide +kernel) rfl ?_
      refine pz_icmp_ne (off := 7) (t := 42) (by decide +kernel) (by decide) rfl rfl rfl (fun h2 => ?_) (fun h2 => ?_)
      · skip
        refine pe_aload_n (j := 0) (by decide +kernel) rfl ?_
        refine pe_iload_n (j := 3) (by decide +kernel) rfl ?_
        refine pe_iload (j := 4) (by decide +kernel) rfl ?_
        refine pz_callV (j := 124) (mj := 189) (by decide +kernel) (cll_V (args := [.int x4, .int x3]) (n := 2) (by decide +kernel) rfl rfl cd_o68 (by decide +kernel) (Nat.le_of_ble_eq_true rfl) (Nat.le_of_ble_eq_true rfl)) (CM_189 hX hI hv (hR3) (by omega) (by omega)) (fun q3a q3b q3c q3d hqq3 => ?_)
        obtain ⟨A4, rq3, eq3, hIq3, hFq3, kq3⟩ := hqq3
        cases eq3
        refine ⟨rfl, rfl, ?_⟩
        show pmE pg X pg_tyl pg_cl (d + 6) 191 49 [.ref 68, .int x1, .int x2, .int x3, .int x4, u5] [.int rq3] (cd f A4 R wr) _
        refine pe_istore (j := 5) (ls' := [.ref 68, .int x1, .int x2, .int x3, .int x4, .int rq3]) (by decide +kernel) (Nat.le_of_ble_eq_true rfl) rfl ?_
        refine pe_iload (j := 5) (by decide +kernel) rfl ?_
        refine pe_iload_n (j := 2) (by decide +kernel) rfl ?_
        have lw6 := zi_lo rq3
        have uw6 := zi_hi rq3
        have lw7 := zi_lo x2
        have uw7 := zi_hi x2
        refine pz_icmp_le (off := 13) (t := 67) (by decide +kernel) (by decide) rfl rfl rfl (fun h5 => ?_) (fun h5 => ?_)
        · skip
          refine pz_iinc (j := 4) (n := 1) (by decide +kernel) rfl rfl (by decide +kernel) (by omega) (by omega) (fun z8 hz8 => ?_)
          show pmE pg X pg_tyl pg_cl (d + 6) 191 70 [.ref 68, .int x1, .int x2, .int x3, .int z8, .int rq3] [] (cd f A4 R wr) _
          refine pe_goto (off := (-50)) (t := 20) (by decide +kernel) (by decide) rfl ?_
          exact ih A4 x1 x2 z8 (.int rq3) hIq3 (fun k n74 n75 n76 n80 n81 n82 => ((hFq3 k n74 n75 n76 n80 n81 n82)).trans ((hF k n74 n75 n76 n80 n81 n82))) (by omega) (by omega) (by omega) (by omega)
        · skip
          refine pe_iload_n (j := 3) (by decide +kernel) rfl ?_
          refine pe_iload (j := 4) (by decide +kernel) rfl ?_
          refine pi_S (j := 53) (mj := 52) (by decide +kernel) (by decide +kernel) rfl ?_
          show pmE pg X pg_tyl pg_cl (d + 5) 52 0 [.int x3, .int x4] [] (cd f A4 R wr) _
          refine pe_iload_n (j := 0) (by decide +kernel) rfl ?_
          refine pe_bipushv (n := 9) (v := 9) (by decide +kernel) (by decide +kernel) ?_
          refine pz_mul (by decide +kernel) rfl kz_9 (by omega) (by omega) (fun z9 hz9 => ?_)
          refine pe_iload_n (j := 1) (by decide +kernel) rfl ?_
          refine pz_add (by decide +kernel) hz9 rfl (by omega) (by omega) (fun z10 hz10 => ?_)
          clear hz9
          refine pe_iret (by decide +kernel) rfl rfl ⟨rfl, rfl, ?_⟩
          show pmE pg X pg_tyl pg_cl (d + 6) 191 63 [.ref 68, .int x1, .int x2, .int x3, .int x4, .int rq3] [.int z10] (cd f A4 R wr) _
          refine pe_istore_n (j := 1) (ls' := [.ref 68, .int z10, .int x2, .int x3, .int x4, .int rq3]) (by decide +kernel) (Nat.le_of_ble_eq_true rfl) rfl ?_
          refine pe_iload (j := 5) (by decide +kernel) rfl ?_
          refine pe_istore_n (j := 2) (ls' := [.ref 68, .int z10, .int rq3, .int x3, .int x4, .int rq3]) (by decide +kernel) (Nat.le_of_ble_eq_true rfl) rfl ?_
          refine pz_iinc (j := 4) (n := 1) (by decide +kernel) rfl rfl (by decide +kernel) (by omega) (by omega) (fun z11 hz11 => ?_)
          show pmE pg X pg_tyl pg_cl (d + 6) 191 70 [.ref 68, .int z10, .int rq3, .int x3, .int z11, .int rq3] [] (cd f A4 R wr) _
          refine pe_goto (off := (-50)) (t := 20) (by decide +kernel) (by decide) rfl ?_
          exact ih A4 z10 rq3 z11 (.int rq3) hIq3 (fun k n74 n75 n76 n80 n81 n82 => ((hFq3 k n74 n75 n76 n80 n81 n82)).trans ((hF k n74 n75 n76 n80 n81 n82))) (by omega) (by omega) (by omega) (by omega)
      · skip
        refine pe_iconstv (n := 0) (v := 0) (by decide +kernel) (by decide +kernel) ?_
        refine pe_goto (off := 10) (t := 49) (by decide +kernel) (by decide) rfl ?_
        refine pe_istore (j := 5) (ls' := [.ref 68, .int x1, .int x2, .int x3, .int x4, .int 0]) (by decide +kernel) (Nat.le_of_ble_eq_true rfl) rfl ?_
        refine pe_iload (j := 5) (by decide +kernel) rfl ?_
        refine pe_iload_n (j := 2) (by decide +kernel) rfl ?_
        have lw13 := zi_lo x2
        have uw13 := zi_hi x2
        refine pz_icmp_le (off := 13) (t := 67) (by decide +kernel) (by decide) rfl kz_0 rfl (fun h12 => ?_) (fun h12 => by omega)
        refine pz_iinc (j := 4) (n := 1) (by decide +kernel) rfl rfl (by decide +kernel) (by omega) (by omega) (fun z14 hz14 => ?_)
        show pmE pg X pg_tyl pg_cl (d + 6) 191 70 [.ref 68, .int x1, .int x2, .int x3, .int z14, .int 0] [] (cd f A R wr) _
        refine pe_goto (off := (-50)) (t := 20) (by decide +kernel) (by decide) rfl ?_
        exact ih A x1 x2 z14 (.int 0) hI (fun k n74 n75 n76 n80 n81 n82 => (hF k n74 n75 n76 n80 n81 n82)) (by omega) (by omega) (by omega) (by omega)
set_option maxRecDepth 100000 in
set_option maxHeartbeats 8000000 in
theorem CL_191_6 {X : pm_X} {d : Nat} {wr : pm_W} {Q : pm_R → Prop} {f : Nat → Int32} {A0 : Nat → List Int32} {R : Nat → Value} {v : Nat} (hX : XO X) (hv : VV v) (hR3 : R 3 = .ref v) (k_79_0 : ∀ (A' : Nat → List Int32) (y1 : Int32) (y2 : Int32) (y3 : Int32) (v4 : Value) (v5 : Value), CI f A' R → (∀ k : Nat, k ≠ 74 → k ≠ 75 → k ≠ 76 → k ≠ 80 → k ≠ 81 → k ≠ 82 → A' k = A0 k) → ((-1) ≤ y1.toInt) → (0 ≤ y2.toInt) → (0 ≤ y3.toInt ∧ y3.toInt ≤ 9) → pmE pg X pg_tyl pg_cl (d + 6) 191 79 [.ref 68, .int y1, .int y2, .int y3, v4, v5] [] (cd f A' R wr) Q) : ∀ (m : Nat) (A : Nat → List Int32) (x1 : Int32) (x2 : Int32) (x3 : Int32) (u4 : Value) (u5 : Value), CI f A R → (∀ k : Nat, k ≠ 74 → k ≠ 75 → k ≠ 76 → k ≠ 80 → k ≠ 81 → k ≠ 82 → A k = A0 k) → ((-1) ≤ x1.toInt) → (0 ≤ x2.toInt) → (0 ≤ x3.toInt ∧ x3.toInt ≤ 9) → 9 - x3.toInt < (m : Int) → pmE pg X pg_tyl pg_cl (d + 6) 191 6 [.ref 68, .int x1, .int x2, .int x3, u4, u5] [] (cd f A R wr) Q := by
  have bv := VV_b hv
  intro m
  induction m with
  | zero =>
    intro A x1 x2 x3 u4 u5 hI hF gx1 gx2 gx3 hm
    exfalso
    have l0 := zi_lo x3
    have u0 := zi_hi x3
    omega
  | succ m ih =>
    intro A x1 x2 x3 u4 u5 hI hF gx1 gx2 gx3 hm
    refine pe_iload_n (j := 3) (by decide +kernel) rfl ?_
    refine pe_aload_n (j := 0) (by decide +kernel) rfl ?_
    refine pe_get (j := 12) (ci := 10) (n := 0) (by decide +kernel) (by decide +kernel) cd_o68 rfl ?_
    refine pe_topV (v := .ref v) (hR3) ?_
    refine pe_get (j := 49) (ci := 9) (n := 0) (by decide +kernel) (by decide +kernel) (cv_o hv) rfl ?_
    have hr_f_16v := cv_people hv hI
    refine pz_icmp_ge (off := 65) (t := 79) (by decide +kernel) (by decide) rfl rfl rfl (fun h1 => ?_) (fun h1 => ?_)
    · skip
      exact k_79_0 A x1 x2 x3 (u4) (u5) hI (fun k n74 n75 n76 n80 n81 n82 => (hF k n74 n75 n76 n80 n81 n82)) (by omega) (by omega) (by omega)
    · skip
      refine pe_iconstv (n := 0) (v := 0) (by decide +kernel) (by decide +kernel) ?_
      refine pe_istore (j := 4) (ls' := [.ref 68, .int x1, .int x2, .int x3, .int 0, u5]) (by decide +kernel) (Nat.le_of_ble_eq_true rfl) rfl ?_
      refine CL_191_20 hX hv (hR3) (by omega) (fun A2 y3 y4 y5 u6 hIy7 hFA2 gy3 gy4 gy5 => ?_) 10 A x1 x2 0 (u5) hI (fun k _ _ _ _ _ _ => rfl) (by omega) (by omega) (by decide +kernel) (by decide +kernel)
      refine pz_iinc (j := 3) (n := 1) (by decide +kernel) rfl rfl (by decide +kernel) (by omega) (by omega) (fun z8 hz8 => ?_)
      show pmE pg X pg_tyl pg_cl (d + 6) 191 76 [.ref 68, .int y3, .int y4, .int z8, .int y5, u6] [] (cd f A2 R wr) _
      refine pe_goto (off := (-70)) (t := 6) (by decide +kernel) (by decide) rfl ?_
      exact ih A2 y3 y4 z8 (.int y5) (u6) hIy7 (fun k n74 n75 n76 n80 n81 n82 => ((hFA2 k n74 n75 n76 n80 n81 n82)).trans ((hF k n74 n75 n76 n80 n81 n82))) (by omega) (by omega) (by omega) (by omega)
set_option maxRecDepth 100000 in
set_option maxHeartbeats 8000000 in
theorem CM_191 {X : pm_X} {d : Nat} {wr : pm_W} {f : Nat → Int32} {A : Nat → List Int32} {R : Nat → Value} {v : Nat} (hX : XO X) (hI : CI f A R) (hv : VV v) (hR3 : R 3 = .ref v) : pmE pg X pg_tyl pg_cl (d + 6) 191 0 (pm_ent (pm_max pg 191) [.ref 68]) [] (cd f A R wr) (fun q => ∃ (A' : Nat → List Int32) (r : Int32), q = (some (.int r), cd f A' R wr, 0, 0) ∧ CI f A' R ∧ (∀ k : Nat, k ≠ 74 → k ≠ 75 → k ≠ 76 → k ≠ 80 → k ≠ 81 → k ≠ 82 → A' k = A k) ∧ ((((-1) ≤ r.toInt) ∧ True))) := by
  have bv := VV_b hv
  show pmE pg X pg_tyl pg_cl (d + 6) 191 0 [.ref 68, pm_dead, pm_dead, pm_dead, pm_dead, pm_dead] [] (cd f A R wr) _
  refine pe_iconstv (n := (-1)) (v := (-1)) (by decide +kernel) (by decide +kernel) ?_
  refine pe_istore_n (j := 1) (ls' := [.ref 68, .int (-1), pm_dead, pm_dead, pm_dead, pm_dead]) (by decide +kernel) (Nat.le_of_ble_eq_true rfl) rfl ?_
  refine pe_iconstv (n := 0) (v := 0) (by decide +kernel) (by decide +kernel) ?_
  refine pe_istore_n (j := 2) (ls' := [.ref 68, .int (-1), .int 0, pm_dead, pm_dead, pm_dead]) (by decide +kernel) (Nat.le_of_ble_eq_true rfl) rfl ?_
  refine pe_iconstv (n := 0) (v := 0) (by decide +kernel) (by decide +kernel) ?_
  refine pe_istore_n (j := 3) (ls' := [.ref 68, .int (-1), .int 0, .int 0, pm_dead, pm_dead]) (by decide +kernel) (Nat.le_of_ble_eq_true rfl) rfl ?_
  refine CL_191_6 hX hv (hR3) (fun A1 y2 y3 y4 u5 u6 hIy7 hFA1 gy2 gy3 gy4 => ?_) 10 A (-1) 0 0 (pm_dead) (pm_dead) hI (fun k _ _ _ _ _ _ => rfl) (by decide +kernel) (by decide +kernel) (by decide +kernel) (by decide +kernel)
  refine pe_iload_n (j := 1) (by decide +kernel) rfl ?_
  exact pe_iret (by decide +kernel) rfl rfl ⟨A1, y2, rfl, hIy7, (fun k n74 n75 n76 n80 n81 n82 => (hFA1 k n74 n75 n76 n80 n81 n82)), ⟨(by omega), trivial⟩⟩
set_option maxRecDepth 100000 in
set_option maxHeartbeats 8000000 in
theorem CL_184_13 {X : pm_X} {d : Nat} {wr : pm_W} {Q : pm_R → Prop} {f : Nat → Int32} {A0 : Nat → List Int32} {R : Nat → Value} {v : Nat} (hX : XO X) (hv : VV v) (hR3 : R 3 = .ref v) (k_69_0 : ∀ (A' : Nat → List Int32) (y2 : Int32) (y3 : Int32) (y4 : Int32) (v5 : Value), CI f A' R → (∀ k : Nat, k ≠ 74 → k ≠ 75 → k ≠ 76 → k ≠ 80 → k ≠ 81 → k ≠ 82 → A' k = A0 k) → (0 ≤ y4.toInt ∧ y4.toInt ≤ 100) → pmE pg X pg_tyl pg_cl (d + 5) 184 69 [.ref 68, .ref v, .int y2, .int y3, .int y4, v5] [] (cd f A' R wr) Q) : ∀ (m : Nat) (A : Nat → List Int32) (x2 : Int32) (x3 : Int32) (x4 : Int32) (u5 : Value), CI f A R → (∀ k : Nat, k ≠ 74 → k ≠ 75 → k ≠ 76 → k ≠ 80 → k ≠ 81 → k ≠ 82 → A k = A0 k) → (0 ≤ x4.toInt ∧ x4.toInt ≤ 100) → 100 - x4.toInt < (m : Int) → pmE pg X pg_tyl pg_cl (d + 5) 184 13 [.ref 68, .ref v, .int x2, .int x3, .int x4, u5] [] (cd f A R wr) Q := by
  have bv := VV_b hv
  intro m
  induction m with
  | zero =>
    intro A x2 x3 x4 u5 hI hF gx4 hm
    exfalso
    have l0 := zi_lo x4
    have u0 := zi_hi x4
    omega
  | succ m ih =>
    intro A x2 x3 x4 u5 hI hF gx4 hm
    refine pe_iload (j := 4) (by decide +kernel) rfl ?_
    refine pe_bipushv (n := 99) (v := 99) (by decide +kernel) (by decide +kernel) ?_
    refine pz_icmp_gt (off := 52) (t := 69) (by decide +kernel) (by decide) rfl rfl kz_99 (fun h1 => ?_) (fun h1 => ?_)
    · skip
      exact k_69_0 A x2 x3 x4 (u5) hI (fun k n74 n75 n76 n80 n81 n82 => (hF k n74 n75 n76 n80 n81 n82)) (by omega)
    · skip
      refine pe_iload_n (j := 3) (by decide +kernel) rfl ?_
      refine pe_iload_n (j := 2) (by decide +kernel) rfl ?_
      refine pw_sub (by decide +kernel) (fun z2 => ?_)
      refine pe_iconstv (n := 1) (v := 1) (by decide +kernel) (by decide +kernel) ?_
      have lw4 := zi_lo z2
      have uw4 := zi_hi z2
      refine pz_icmp_le (off := 45) (t := 69) (by decide +kernel) (by decide) rfl rfl kz_1 (fun h3 => ?_) (fun h3 => ?_)
      · skip
        exact k_69_0 A x2 x3 x4 (u5) hI (fun k n74 n75 n76 n80 n81 n82 => (hF k n74 n75 n76 n80 n81 n82)) (by omega)
      · skip
        refine pe_iload_n (j := 3) (by decide +kernel) rfl ?_
        refine pe_iload_n (j := 2) (by decide +kernel) rfl ?_
        refine pw_add (by decide +kernel) (fun z5 => ?_)
        refine pe_iconstv (n := 1) (v := 1) (by decide +kernel) (by decide +kernel) ?_
        refine pw_shr (by decide +kernel) (fun z6 => ?_)
        refine pe_istore (j := 5) (ls' := [.ref 68, .ref v, .int x2, .int x3, .int x4, .int z6]) (by decide +kernel) (Nat.le_of_ble_eq_true rfl) rfl ?_
        refine pe_aload_n (j := 0) (by decide +kernel) rfl ?_
        refine pe_iload (j := 5) (by decide +kernel) rfl ?_
        refine pz_callV (j := 127) (mj := 185) (by decide +kernel) (cll_V (args := [.int z6]) (n := 1) (by decide +kernel) rfl rfl cd_o68 (by decide +kernel) (Nat.le_of_ble_eq_true rfl) (Nat.le_of_ble_eq_true rfl)) (CM_185 hX hI hv (hR3)) (fun q7a q7b q7c q7d hqq7 => ?_)
        obtain ⟨A8, eq7, hIq7, hFq7, kq7⟩ := hqq7
        cases eq7
        refine ⟨rfl, rfl, ?_⟩
        show pmE pg X pg_tyl pg_cl (d + 5) 184 40 [.ref 68, .ref v, .int x2, .int x3, .int x4, .int z6] [] (cd f A8 R wr) _
        refine pe_aload_n (j := 0) (by decide +kernel) rfl ?_
        refine pe_aload_n (j := 0) (by decide +kernel) rfl ?_
        refine pe_get (j := 63) (ci := 10) (n := 7) (by decide +kernel) (by decide +kernel) cd_o68 rfl ?_
        have hr_f_1095 := cf_1095 hIq7
        refine pe_iconstv (n := 1) (v := 1) (by decide +kernel) (by decide +kernel) ?_
        refine pz_sub (by decide +kernel) rfl kz_1 (by omega) (by omega) (fun z9 hz9 => ?_)
        refine pe_iconstv (n := 0) (v := 0) (by decide +kernel) (by decide +kernel) ?_
        refine pz_callV (j := 107) (mj := 169) (by decide +kernel) (cll_V (args := [.int 0, .int z9]) (n := 2) (by decide +kernel) rfl rfl cd_o68 (by decide +kernel) (Nat.le_of_ble_eq_true rfl) (Nat.le_of_ble_eq_true rfl)) (CM_169 hX hIq7 hv (hR3)) (fun q10a q10b q10c q10d hqq10 => ?_)
        obtain ⟨A11, rq10, eq10, hIq10, hFq10, kq10⟩ := hqq10
        cases eq10
        refine ⟨rfl, rfl, ?_⟩
        rcases kq10 with kq10 | kq10
        · skip
          obtain ⟨erq10, kq10⟩ := kq10
          subst erq10
          show pmE pg X pg_tyl pg_cl (d + 5) 184 51 [.ref 68, .ref v, .int x2, .int x3, .int x4, .int z6] [.int 0] (cd f A11 R wr) _
          refine pz_if_eq (off := 9) (t := 60) (by decide +kernel) (by decide) rfl kz_0 (fun h12 => ?_) (fun h12 => by omega)
          refine pe_iload (j := 5) (by decide +kernel) rfl ?_
          refine pe_istore_n (j := 2) (ls' := [.ref 68, .ref v, .int z6, .int x3, .int x4, .int z6]) (by decide +kernel) (Nat.le_of_ble_eq_true rfl) rfl ?_
          refine pz_iinc (j := 4) (n := 1) (by decide +kernel) rfl rfl (by decide +kernel) (by omega) (by omega) (fun z13 hz13 => ?_)
          show pmE pg X pg_tyl pg_cl (d + 5) 184 66 [.ref 68, .ref v, .int z6, .int x3, .int z13, .int z6] [] (cd f A11 R wr) _
          refine pe_goto (off := (-53)) (t := 13) (by decide +kernel) (by decide) rfl ?_
          exact ih A11 z6 x3 z13 (.int z6) hIq10 (fun k n74 n75 n76 n80 n81 n82 => ((hFq10 k n75 n76 n80 n81 n82)).trans (((hFq7 k n74)).trans ((hF k n74 n75 n76 n80 n81 n82)))) (by omega) (by omega)
        · skip
          obtain ⟨erq10, kq10⟩ := kq10
          subst erq10
          show pmE pg X pg_tyl pg_cl (d + 5) 184 51 [.ref 68, .ref v, .int x2, .int x3, .int x4, .int z6] [.int 1] (cd f A11 R wr) _
          refine pz_if_eq (off := 9) (t := 60) (by decide +kernel) (by decide) rfl kz_1 (fun h14 => by omega) (fun h14 => ?_)
          refine pe_iload (j := 5) (by decide +kernel) rfl ?_
          refine pe_istore_n (j := 3) (ls' := [.ref 68, .ref v, .int x2, .int z6, .int x4, .int z6]) (by decide +kernel) (Nat.le_of_ble_eq_true rfl) rfl ?_
          refine pe_goto (off := 6) (t := 63) (by decide +kernel) (by decide) rfl ?_
          refine pz_iinc (j := 4) (n := 1) (by decide +kernel) rfl rfl (by decide +kernel) (by omega) (by omega) (fun z15 hz15 => ?_)
          show pmE pg X pg_tyl pg_cl (d + 5) 184 66 [.ref 68, .ref v, .int x2, .int z6, .int z15, .int z6] [] (cd f A11 R wr) _
          refine pe_goto (off := (-53)) (t := 13) (by decide +kernel) (by decide) rfl ?_
          exact ih A11 x2 z6 z15 (.int z6) hIq10 (fun k n74 n75 n76 n80 n81 n82 => ((hFq10 k n75 n76 n80 n81 n82)).trans (((hFq7 k n74)).trans ((hF k n74 n75 n76 n80 n81 n82)))) (by omega) (by omega)
set_option maxRecDepth 100000 in
set_option maxHeartbeats 8000000 in
theorem CM_184 {X : pm_X} {d : Nat} {wr : pm_W} {f : Nat → Int32} {A : Nat → List Int32} {R : Nat → Value} {v : Nat} (hX : XO X) (hI : CI f A R) (hv : VV v) : pmE pg X pg_tyl pg_cl (d + 5) 184 0 (pm_ent (pm_max pg 184) [.ref 68, .ref v]) [] (cd f A R wr) (fun q => ∃ (f' : Nat → Int32) (A' : Nat → List Int32) (R' : Nat → Value) (r : Int32), q = (some (.int r), cd f' A' R' wr, 0, 0) ∧ CI f' A' R' ∧ (∀ k : Nat, k ≠ 1095 → f' k = f k) ∧ (∀ k : Nat, k ≠ 74 → k ≠ 75 → k ≠ 76 → k ≠ 77 → k ≠ 80 → k ≠ 81 → k ≠ 82 → A' k = A k) ∧ (∀ k : Nat, k ≠ 3 → R' k = R k) ∧ (((r.toInt ≤ 99) ∧ True))) := by
  have bv := VV_b hv
  show pmE pg X pg_tyl pg_cl (d + 5) 184 0 [.ref 68, .ref v, pm_dead, pm_dead, pm_dead, pm_dead] [] (cd f A R wr) _
  refine pe_aload_n (j := 0) (by decide +kernel) rfl ?_
  refine pe_aload_n (j := 1) (by decide +kernel) rfl ?_
  refine pz_callV (j := 45) (mj := 160) (by decide +kernel) (cll_V (args := [.ref v]) (n := 1) (by decide +kernel) rfl rfl cd_o68 (by decide +kernel) (Nat.le_of_ble_eq_true rfl) (Nat.le_of_ble_eq_true rfl)) (CM_160 hX hI hv) (fun q1a q1b q1c q1d hqq1 => ?_)
  obtain ⟨f2, A3, R4, eq1, hIq1, hGq1, hFq1, hHq1, hS3q1, kq1⟩ := hqq1
  cases eq1
  refine ⟨rfl, rfl, ?_⟩
  show pmE pg X pg_tyl pg_cl (d + 5) 184 5 [.ref 68, .ref v, pm_dead, pm_dead, pm_dead, pm_dead] [] (cd f2 A3 R4 wr) _
  refine pe_iconstv (n := (-1)) (v := (-1)) (by decide +kernel) (by decide +kernel) ?_
  refine pe_istore_n (j := 2) (ls' := [.ref 68, .ref v, .int (-1), pm_dead, pm_dead, pm_dead]) (by decide +kernel) (Nat.le_of_ble_eq_true rfl) rfl ?_
  refine pe_bipushv (n := 100) (v := 100) (by decide +kernel) (by decide +kernel) ?_
  refine pe_istore_n (j := 3) (ls' := [.ref 68, .ref v, .int (-1), .int 100, pm_dead, pm_dead]) (by decide +kernel) (Nat.le_of_ble_eq_true rfl) rfl ?_
  refine pe_iconstv (n := 0) (v := 0) (by decide +kernel) (by decide +kernel) ?_
  refine pe_istore (j := 4) (ls' := [.ref 68, .ref v, .int (-1), .int 100, .int 0, pm_dead]) (by decide +kernel) (Nat.le_of_ble_eq_true rfl) rfl ?_
  refine CL_184_13 hX hv (hS3q1) (fun A5 y6 y7 y8 u9 hIy10 hFA5 gy8 => ?_) 101 A3 (-1) 100 0 (pm_dead) hIq1 (fun k _ _ _ _ _ _ => rfl) (by decide +kernel) (by decide +kernel)
  refine pe_iload_n (j := 3) (by decide +kernel) rfl ?_
  refine pe_bipushv (n := 99) (v := 99) (by decide +kernel) (by decide +kernel) ?_
  have lw12 := zi_lo y7
  have uw12 := zi_hi y7
  refine pz_icmp_le (off := 7) (t := 79) (by decide +kernel) (by decide) rfl rfl kz_99 (fun h11 => ?_) (fun h11 => ?_)
  · skip
    refine pe_iload_n (j := 3) (by decide +kernel) rfl ?_
    exact pe_iret (by decide +kernel) rfl rfl ⟨f2, A5, R4, y7, rfl, hIy10, (fun k n1095 => (hGq1 k n1095)), (fun k n74 n75 n76 n77 n80 n81 n82 => ((hFA5 k n74 n75 n76 n80 n81 n82)).trans ((hFq1 k n77))), (fun k n3 => (hHq1 k n3)), ⟨(by omega), trivial⟩⟩
  · skip
    refine pe_iconstv (n := (-1)) (v := (-1)) (by decide +kernel) (by decide +kernel) ?_
    refine pe_goto (off := 4) (t := 80) (by decide +kernel) (by decide) rfl ?_
    exact pe_iret (by decide +kernel) rfl rfl ⟨f2, A5, R4, (-1), rfl, hIy10, (fun k n1095 => (hGq1 k n1095)), (fun k n74 n75 n76 n77 n80 n81 n82 => ((hFA5 k n74 n75 n76 n80 n81 n82)).trans ((hFq1 k n77))), (fun k n3 => (hHq1 k n3)), ⟨(by decide +kernel), trivial⟩⟩
end
