set_option maxRecDepth 100000 in
set_option maxHeartbeats 8000000 in
theorem CL_161_23 {X : pm_X} {d : Nat} {wr : pm_W} {Q : pm_R → Prop} {f : Nat → Int32} {A0 : Nat → List Int32} {R : Nat → Value} {x1 x2 x3 : Int32} {v : Nat} (hX : XO X) (hv : VV v) (hR3 : R 3 = .ref v) (gx1 : (0 ≤ x1.toInt ∧ x1.toInt ≤ 8)) (gx2 : (0 ≤ x2.toInt ∧ x2.toInt ≤ 8)) (gx3 : (0 ≤ x3.toInt ∧ x3.toInt ≤ 8)) (k_62_0 : ∀ (A' : Nat → List Int32) (y4 : Int32), CI f A' R → (∀ k : Nat, k ≠ 80 → A' k = A0 k) → (0 ≤ y4.toInt ∧ y4.toInt ≤ 9) → pmE pg X pg_tyl pg_cl (d + 3) 161 62 [.ref 68, .int x1, .int x2, .int x3, .int y4] [] (cd f A' R wr) Q) : ∀ (m : Nat) (A : Nat → List Int32) (x4 : Int32), CI f A R → (∀ k : Nat, k ≠ 80 → A k = A0 k) → (0 ≤ x4.toInt ∧ x4.toInt ≤ 9) → 9 - x4.toInt < (m : Int) → pmE pg X pg_tyl pg_cl (d + 3) 161 23 [.ref 68, .int x1, .int x2, .int x3, .int x4] [] (cd f A R wr) Q := by
  have bv := VV_b hv
  intro m
  induction m with
  | zero =>
    intro A x4 hI hF gx4 hm
    exfalso
    have l0 := zi_lo x4
    have u0 := zi_hi x4
    omega
  | succ m ih =>
    intro A x4 hI hF gx4 hm
    refine pe_iload (j := 4) (by decide +kernel) rfl ?_
    refine pe_aload_n (j := 0) (by decide +kernel) rfl ?_
    refine pe_get (j := 12) (ci := 10) (n := 0) (by decide +kernel) (by decide +kernel) cd_o68 rfl ?_
    refine pe_topV (v := .ref v) (hR3) ?_
    refine pe_get (j := 49) (ci := 9) (n := 0) (by decide +kernel) (by decide +kernel) (cv_o hv) rfl ?_
    have hr_f_16v := cv_people hv hI
    refine pz_icmp_ge (off := 30) (t := 62) (by decide +kernel) (by decide) rfl rfl rfl (fun h1 => ?_) (fun h1 => ?_)
    · skip
      exact k_62_0 A x4 hI (fun k n80 => (hF k n80)) (by omega)
    · skip
      refine pe_aload_n (j := 0) (by decide +kernel) rfl ?_
      refine pe_get (j := 38) (ci := 10) (n := 6) (by decide +kernel) (by decide +kernel) cd_o68 rfl ?_
      refine pe_iload_n (j := 3) (by decide +kernel) rfl ?_
      refine pe_iload (j := 4) (by decide +kernel) rfl ?_
      refine pe_aload_n (j := 0) (by decide +kernel) rfl ?_
      refine pe_get (j := 18) (ci := 10) (n := 1) (by decide +kernel) (by decide +kernel) cd_o68 rfl ?_
      refine pe_iload_n (j := 3) (by decide +kernel) rfl ?_
      refine pe_iload (j := 4) (by decide +kernel) rfl ?_
      refine pi_S (j := 53) (mj := 52) (by decide +kernel) (by decide +kernel) rfl ?_
      show pmE pg X pg_tyl pg_cl (d + 2) 52 0 [.int x3, .int x4] [] (cd f A R wr) _
      refine pe_iload_n (j := 0) (by decide +kernel) rfl ?_
      refine pe_bipushv (n := 9) (v := 9) (by decide +kernel) (by decide +kernel) ?_
      refine pz_mul (by decide +kernel) rfl kz_9 (by omega) (by omega) (fun z2 hz2 => ?_)
      refine pe_iload_n (j := 1) (by decide +kernel) rfl ?_
      refine pz_add (by decide +kernel) hz2 rfl (by omega) (by omega) (fun z3 hz3 => ?_)
      clear hz2
      refine pe_iret (by decide +kernel) rfl rfl ⟨rfl, rfl, ?_⟩
      show pmE pg X pg_tyl pg_cl (d + 3) 161 52 [.ref 68, .int x1, .int x2, .int x3, .int x4] [.int z3, .ref 74, .int x4, .int x3, .ref 79] (cd f A R wr) _
      refine pz_iald (by decide +kernel) cd_a74 (cl_74 hI) hz3 (by omega) (by omega) (fun v4 ev4 => ?_)
      rw [show A 74 = A0 74 from (hF 74 (by decide))] at ev4
      clear hz3
      refine pi_V (j := 72) (mj := 163) (by decide +kernel) (cll_V (args := [.int v4, .int x4, .int x3]) (n := 3) (by decide +kernel) rfl rfl cd_o79 (by decide +kernel) (Nat.le_of_ble_eq_true rfl) (Nat.le_of_ble_eq_true rfl)) ?_
      show pmE pg X pg_tyl pg_cl (d + 2) 163 0 [.ref 79, .int x3, .int x4, .int v4] [] (cd f A R wr) _
      refine pe_aload_n (j := 0) (by decide +kernel) rfl ?_
      refine pe_get (j := 11) (ci := 0) (n := 0) (by decide +kernel) (by decide +kernel) cd_o79 rfl ?_
      refine pe_iload_n (j := 1) (by decide +kernel) rfl ?_
      refine pe_bipushv (n := 12) (v := 12) (by decide +kernel) (by decide +kernel) ?_
      refine pz_mul (by decide +kernel) rfl kz_12 (by omega) (by omega) (fun z5 hz5 => ?_)
      refine pe_iload_n (j := 2) (by decide +kernel) rfl ?_
      refine pz_add (by decide +kernel) hz5 rfl (by omega) (by omega) (fun z6 hz6 => ?_)
      clear hz5
      refine pe_iload_n (j := 3) (by decide +kernel) rfl ?_
      refine cz_st80 (by decide +kernel) hI hz6 (by omega) (by omega) (fun A7 eA7 hIA7 => ?_)
      refine pe_vret (by decide +kernel) rfl ⟨rfl, rfl, ?_⟩
      show pmE pg X pg_tyl pg_cl (d + 3) 161 56 [.ref 68, .int x1, .int x2, .int x3, .int x4] [] (cd f A7 R wr) _
      refine pz_iinc (j := 4) (n := 1) (by decide +kernel) rfl rfl (by decide +kernel) (by omega) (by omega) (fun z8 hz8 => ?_)
      show pmE pg X pg_tyl pg_cl (d + 3) 161 59 [.ref 68, .int x1, .int x2, .int x3, .int z8] [] (cd f A7 R wr) _
      refine pe_goto (off := (-36)) (t := 23) (by decide +kernel) (by decide) rfl ?_
      exact ih A7 z8 hIA7 (fun k n80 => (upa_fr eA7 n80).trans ((hF k n80))) (by omega) (by omega)
set_option maxRecDepth 100000 in
set_option maxHeartbeats 8000000 in
theorem CL_161_9 {X : pm_X} {d : Nat} {wr : pm_W} {Q : pm_R → Prop} {f : Nat → Int32} {A0 : Nat → List Int32} {R : Nat → Value} {x1 x2 : Int32} {v : Nat} (hX : XO X) (hv : VV v) (hR3 : R 3 = .ref v) (gx1 : (0 ≤ x1.toInt ∧ x1.toInt ≤ 8)) (gx2 : (0 ≤ x2.toInt ∧ x2.toInt ≤ 8)) (k_68_0 : ∀ (A' : Nat → List Int32) (y3 : Int32) (v4 : Value), CI f A' R → (∀ k : Nat, k ≠ 80 → A' k = A0 k) → (0 ≤ y3.toInt ∧ y3.toInt ≤ 9) → pmE pg X pg_tyl pg_cl (d + 3) 161 68 [.ref 68, .int x1, .int x2, .int y3, v4] [] (cd f A' R wr) Q) : ∀ (m : Nat) (A : Nat → List Int32) (x3 : Int32) (u4 : Value), CI f A R → (∀ k : Nat, k ≠ 80 → A k = A0 k) → (0 ≤ x3.toInt ∧ x3.toInt ≤ 9) → 9 - x3.toInt < (m : Int) → pmE pg X pg_tyl pg_cl (d + 3) 161 9 [.ref 68, .int x1, .int x2, .int x3, u4] [] (cd f A R wr) Q := by
  have bv := VV_b hv
  intro m
  induction m with
  | zero =>
    intro A x3 u4 hI hF gx3 hm
    exfalso
    have l0 := zi_lo x3
    have u0 := zi_hi x3
    omega
  | succ m ih =>
    intro A x3 u4 hI hF gx3 hm
    refine pe_iload_n (j := 3) (by decide +kernel) rfl ?_
    refine pe_aload_n (j := 0) (by decide +kernel) rfl ?_
    refine pe_get (j := 12) (ci := 10) (n := 0) (by decide +kernel) (by decide +kernel) cd_o68 rfl ?_
    refine pe_topV (v := .ref v) (hR3) ?_
    refine pe_get (j := 49) (ci := 9) (n := 0) (by decide +kernel) (by decide +kernel) (cv_o hv) rfl ?_
    have hr_f_16v := cv_people hv hI
    refine pz_icmp_ge (off := 51) (t := 68) (by decide +kernel) (by decide) rfl rfl rfl (fun h1 => ?_) (fun h1 => ?_)
    · skip
      exact k_68_0 A x3 (u4) hI (fun k n80 => (hF k n80)) (by omega)
    · skip
      refine pe_iconstv (n := 0) (v := 0) (by decide +kernel) (by decide +kernel) ?_
      refine pe_istore (j := 4) (ls' := [.ref 68, .int x1, .int x2, .int x3, .int 0]) (by decide +kernel) (Nat.le_of_ble_eq_true rfl) rfl ?_
      refine CL_161_23 hX hv (hR3) (by omega) (by omega) (by omega) (fun A2 y3 hIy4 hFA2 gy3 => ?_) 10 A 0 hI (fun k _ => rfl) (by decide +kernel) (by decide +kernel)
      refine pz_iinc (j := 3) (n := 1) (by decide +kernel) rfl rfl (by decide +kernel) (by omega) (by omega) (fun z5 hz5 => ?_)
      show pmE pg X pg_tyl pg_cl (d + 3) 161 65 [.ref 68, .int x1, .int x2, .int z5, .int y3] [] (cd f A2 R wr) _
      refine pe_goto (off := (-56)) (t := 9) (by decide +kernel) (by decide) rfl ?_
      exact ih A2 z5 (.int y3) hIy4 (fun k n80 => ((hFA2 k n80)).trans ((hF k n80))) (by omega) (by omega)
set_option maxRecDepth 100000 in
set_option maxHeartbeats 8000000 in
theorem CM_161 {X : pm_X} {d : Nat} {wr : pm_W} {f : Nat → Int32} {A : Nat → List Int32} {R : Nat → Value} {x1 x2 : Int32} {v : Nat} (hX : XO X) (hI : CI f A R) (hv : VV v) (hR3 : R 3 = .ref v) (gx1 : (0 ≤ x1.toInt ∧ x1.toInt ≤ 8)) (gx2 : (0 ≤ x2.toInt ∧ x2.toInt ≤ 8)) : pmE pg X pg_tyl pg_cl (d + 3) 161 0 (pm_ent (pm_max pg 161) [.ref 68, .int x1, .int x2]) [] (cd f A R wr) (fun q => ∃ (A' : Nat → List Int32) (r : Int32), q = (some (.int r), cd f A' R wr, 0, 0) ∧ CI f A' R ∧ (∀ k : Nat, k ≠ 80 → k ≠ 81 → k ≠ 82 → A' k = A k) ∧ ((True ∧ True))) := by
  have bv := VV_b hv
  show pmE pg X pg_tyl pg_cl (d + 3) 161 0 [.ref 68, .int x1, .int x2, pm_dead, pm_dead] [] (cd f A R wr) _
  refine pe_aload_n (j := 0) (by decide +kernel) rfl ?_
  refine pe_get (j := 38) (ci := 10) (n := 6) (by decide +kernel) (by decide +kernel) cd_o68 rfl ?_
  refine pi_V (j := 69) (mj := 162) (by decide +kernel) (cll_V (args := []) (n := 0) (by decide +kernel) rfl rfl cd_o79 (by decide +kernel) (Nat.le_of_ble_eq_true rfl) (Nat.le_of_ble_eq_true rfl)) ?_
  show pmE pg X pg_tyl pg_cl (d + 2) 162 0 [.ref 79] [] (cd f A R wr) _
  refine pe_aload_n (j := 0) (by decide +kernel) rfl ?_
  refine pe_get (j := 11) (ci := 0) (n := 0) (by decide +kernel) (by decide +kernel) cd_o79 rfl ?_
  refine pe_iconstv (n := 0) (v := 0) (by decide +kernel) (by decide +kernel) ?_
  refine cz_fill (j := 21) (k := 80) (n := 144) (by decide +kernel) (by decide +kernel) rfl cd_a80 (fun _ => cd_s80) hI (cl_80 hI) (by decide +kernel) (ct_no (by decide +kernel)) (fun A1 eA1 hIA1 => ?_)
  refine pe_vret (by decide +kernel) rfl ⟨rfl, rfl, ?_⟩
  show pmE pg X pg_tyl pg_cl (d + 3) 161 7 [.ref 68, .int x1, .int x2, pm_dead, pm_dead] [] (cd f A1 R wr) _
  refine pe_iconstv (n := 0) (v := 0) (by decide +kernel) (by decide +kernel) ?_
  refine pe_istore_n (j := 3) (ls' := [.ref 68, .int x1, .int x2, .int 0, pm_dead]) (by decide +kernel) (Nat.le_of_ble_eq_true rfl) rfl ?_
  refine CL_161_9 hX hv (hR3) (by omega) (by omega) (fun A2 y3 u4 hIy5 hFA2 gy3 => ?_) 10 A1 0 (pm_dead) hIA1 (fun k _ => rfl) (by decide +kernel) (by decide +kernel)
  refine pe_aload_n (j := 0) (by decide +kernel) rfl ?_
  refine pe_get (j := 38) (ci := 10) (n := 6) (by decide +kernel) (by decide +kernel) cd_o68 rfl ?_
  refine pe_iload_n (j := 1) (by decide +kernel) rfl ?_
  refine pe_iload_n (j := 2) (by decide +kernel) rfl ?_
  refine pz_callV (j := 76) (mj := 164) (by decide +kernel) (cll_V (args := [.int x2, .int x1]) (n := 2) (by decide +kernel) rfl rfl cd_o79 (by decide +kernel) (Nat.le_of_ble_eq_true rfl) (Nat.le_of_ble_eq_true rfl)) (CM_164 hX hIy5 (by omega) (by omega)) (fun q6a q6b q6c q6d hqq6 => ?_)
  obtain ⟨A7, rq6, eq6, hIq6, hFq6, kq6⟩ := hqq6
  cases eq6
  refine ⟨rfl, rfl, ?_⟩
  show pmE pg X pg_tyl pg_cl (d + 3) 161 77 [.ref 68, .int x1, .int x2, .int y3, u4] [.int rq6] (cd f A7 R wr) _
  exact pe_iret (by decide +kernel) rfl rfl ⟨A7, rq6, rfl, hIq6, (fun k n80 n81 n82 => ((hFq6 k n80 n81 n82)).trans (((hFA2 k n80)).trans (upa_fr eA1 n80))), ⟨trivial, trivial⟩⟩
set_option maxRecDepth 100000 in
set_option maxHeartbeats 8000000 in
theorem CL_194_20 {X : pm_X} {d : Nat} {wr : pm_W} {Q : pm_R → Prop} {f : Nat → Int32} {A0 : Nat → List Int32} {R : Nat → Value} {x3 : Int32} {v : Nat} (hX : XO X) (hv : VV v) (hR3 : R 3 = .ref v) (gx3 : (0 ≤ x3.toInt ∧ x3.toInt ≤ 8)) (k_84_0 : ∀ (A' : Nat → List Int32) (y1 : Int32) (y2 : Int32) (y4 : Int32) (v5 : Value), CI f A' R → (∀ k : Nat, k ≠ 80 → k ≠ 81 → k ≠ 82 → A' k = A0 k) → ((-1) ≤ y1.toInt) → (0 ≤ y4.toInt ∧ y4.toInt ≤ 9) → pmE pg X pg_tyl pg_cl (d + 4) 194 84 [.ref 68, .int y1, .int y2, .int x3, .int y4, v5] [] (cd f A' R wr) Q) : ∀ (m : Nat) (A : Nat → List Int32) (x1 : Int32) (x2 : Int32) (x4 : Int32) (u5 : Value), CI f A R → (∀ k : Nat, k ≠ 80 → k ≠ 81 → k ≠ 82 → A k = A0 k) → ((-1) ≤ x1.toInt) → (0 ≤ x4.toInt ∧ x4.toInt ≤ 9) → 9 - x4.toInt < (m : Int) → pmE pg X pg_tyl pg_cl (d + 4) 194 20 [.ref 68, .int x1, .int x2, .int x3, .int x4, u5] [] (cd f A R wr) Q := by
  have bv := VV_b hv
  intro m
  induction m with
  | zero =>
    intro A x1 x2 x4 u5 hI hF gx1 gx4 hm
    exfalso
    have l0 := zi_lo x4
    have u0 := zi_hi x4
    omega
  | succ m ih =>
    intro A x1 x2 x4 u5 hI hF gx1 gx4 hm
    refine pe_iload (j := 4) (by decide +kernel) rfl ?_
    refine pe_aload_n (j := 0) (by decide +kernel) rfl ?_
    refine pe_get (j := 12) (ci := 10) (n := 0) (by decide +kernel) (by decide +kernel) cd_o68 rfl ?_
    refine pe_topV (v := .ref v) (hR3) ?_
    refine pe_get (j := 49) (ci := 9) (n := 0) (by decide +kernel) (by decide +kernel) (cv_o hv) rfl ?_
    have hr_f_16v := cv_people hv hI
    refine pz_icmp_ge (off := 55) (t := 84) (by decide +kernel) (by decide) rfl rfl rfl (fun h1 => ?_) (fun h1 => ?_)
    · skip
      exact k_84_0 A x1 x2 x4 (u5) hI (fun k n80 n81 n82 => (hF k n80 n81 n82)) (by omega) (by omega)
    · skip
      refine pe_iload_n (j := 3) (by decide +kernel) rfl ?_
      refine pe_iload (j := 4) (by decide +kernel) rfl ?_
      refine pz_icmp_ne (off := 7) (t := 42) (by decide +kernel) (by decide) rfl rfl rfl (fun h2 => ?_) (fun h2 => ?_)
      · skip
        refine pe_aload_n (j := 0) (by decide +kernel) rfl ?_
        refine pe_iload_n (j := 3) (by decide +kernel) rfl ?_
        refine pe_iload (j := 4) (by decide +kernel) rfl ?_
        refine pz_callV (j := 79) (mj := 161) (by decide +kernel) (cll_V (args := [.int x4, .int x3]) (n := 2) (by decide +kernel) rfl rfl cd_o68 (by decide +kernel) (Nat.le_of_ble_eq_true rfl) (Nat.le_of_ble_eq_true rfl)) (CM_161 hX hI hv (hR3) (by omega) (by omega)) (fun q3a q3b q3c q3d hqq3 => ?_)
        obtain ⟨A4, rq3, eq3, hIq3, hFq3, kq3⟩ := hqq3
        cases eq3
        refine ⟨rfl, rfl, ?_⟩
        show pmE pg X pg_tyl pg_cl (d + 4) 194 49 [.ref 68, .int x1, .int x2, .int x3, .int x4, u5] [.int rq3] (cd f A4 R wr) _
        refine pe_istore (j := 5) (ls' := [.ref 68, .int x1, .int x2, .int x3, .int x4, .int rq3]) (by decide +kernel) (Nat.le_of_ble_eq_true rfl) rfl ?_
        refine pe_iload_n (j := 3) (by decide +kernel) rfl ?_
        refine pe_iload (j := 4) (by decide +kernel) rfl ?_
        refine pz_icmp_eq (off := 24) (t := 78) (by decide +kernel) (by decide) rfl rfl rfl (fun h5 => ?_) (fun h5 => ?_)
        · skip
          refine pz_iinc (j := 4) (n := 1) (by decide +kernel) rfl rfl (by decide +kernel) (by omega) (by omega) (fun z6 hz6 => ?_)
          show pmE pg X pg_tyl pg_cl (d + 4) 194 81 [.ref 68, .int x1, .int x2, .int x3, .int z6, .int rq3] [] (cd f A4 R wr) _
          refine pe_goto (off := (-61)) (t := 20) (by decide +kernel) (by decide) rfl ?_
          exact ih A4 x1 x2 z6 (.int rq3) hIq3 (fun k n80 n81 n82 => ((hFq3 k n80 n81 n82)).trans ((hF k n80 n81 n82))) (by omega) (by omega) (by omega)
        · skip
          refine pe_iload_n (j := 1) (by decide +kernel) rfl ?_
          refine pe_iconstv (n := (-1)) (v := (-1)) (by decide +kernel) (by decide +kernel) ?_
          have lw8 := zi_lo x1
          have uw8 := zi_hi x1
          refine pz_icmp_eq (off := 9) (t := 68) (by decide +kernel) (by decide) rfl rfl kz_m1 (fun h7 => ?_) (fun h7 => ?_)
          · skip
            refine pe_iload_n (j := 3) (by decide +kernel) rfl ?_
            refine pe_iload (j := 4) (by decide +kernel) rfl ?_
            refine pi_S (j := 53) (mj := 52) (by decide +kernel) (by decide +kernel) rfl ?_
            show pmE pg X pg_tyl pg_cl (d + 3) 52 0 [.int x3, .int x4] [] (cd f A4 R wr) _
            refine pe_iload_n (j := 0) (by decide +kernel) rfl ?_
            refine pe_bipushv (n := 9) (v := 9) (by decide +kernel) (by decide +kernel) ?_
            refine pz_mul (by decide +kernel) rfl kz_9 (by omega) (by omega) (fun z9 hz9 => ?_)
            refine pe_iload_n (j := 1) (by decide +kernel) rfl ?_
            refine pz_add (by decide +kernel) hz9 rfl (by omega) (by omega) (fun z10 hz10 => ?_)
            clear hz9
            refine pe_iret (by decide +kernel) rfl rfl ⟨rfl, rfl, ?_⟩
            show pmE pg X pg_tyl pg_cl (d + 4) 194 74 [.ref 68, .int x1, .int x2, .int x3, .int x4, .int rq3] [.int z10] (cd f A4 R wr) _
            refine pe_istore_n (j := 1) (ls' := [.ref 68, .int z10, .int x2, .int x3, .int x4, .int rq3]) (by decide +kernel) (Nat.le_of_ble_eq_true rfl) rfl ?_
            refine pe_iload (j := 5) (by decide +kernel) rfl ?_
            refine pe_istore_n (j := 2) (ls' := [.ref 68, .int z10, .int rq3, .int x3, .int x4, .int rq3]) (by decide +kernel) (Nat.le_of_ble_eq_true rfl) rfl ?_
            refine pz_iinc (j := 4) (n := 1) (by decide +kernel) rfl rfl (by decide +kernel) (by omega) (by omega) (fun z11 hz11 => ?_)
            show pmE pg X pg_tyl pg_cl (d + 4) 194 81 [.ref 68, .int z10, .int rq3, .int x3, .int z11, .int rq3] [] (cd f A4 R wr) _
            refine pe_goto (off := (-61)) (t := 20) (by decide +kernel) (by decide) rfl ?_
            exact ih A4 z10 rq3 z11 (.int rq3) hIq3 (fun k n80 n81 n82 => ((hFq3 k n80 n81 n82)).trans ((hF k n80 n81 n82))) (by omega) (by omega) (by omega)
          · skip
            refine pe_iload (j := 5) (by decide +kernel) rfl ?_
            refine pe_iload_n (j := 2) (by decide +kernel) rfl ?_
            have lw13 := zi_lo rq3
            have uw13 := zi_hi rq3
            have lw14 := zi_lo x2
            have uw14 := zi_hi x2
            refine pz_icmp_ge (off := 13) (t := 78) (by decide +kernel) (by decide) rfl rfl rfl (fun h12 => ?_) (fun h12 => ?_)
            · skip
              refine pz_iinc (j := 4) (n := 1) (by decide +kernel) rfl rfl (by decide +kernel) (by omega) (by omega) (fun z15 hz15 => ?_)
              show pmE pg X pg_tyl pg_cl (d + 4) 194 81 [.ref 68, .int x1, .int x2, .int x3, .int z15, .int rq3] [] (cd f A4 R wr) _
              refine pe_goto (off := (-61)) (t := 20) (by decide +kernel) (by decide) rfl ?_
              exact ih A4 x1 x2 z15 (.int rq3) hIq3 (fun k n80 n81 n82 => ((hFq3 k n80 n81 n82)).trans ((hF k n80 n81 n82))) (by omega) (by omega) (by omega)
            · skip
              refine pe_iload_n (j := 3) (by decide +kernel) rfl ?_
              refine pe_iload (j := 4) (by decide +kernel) rfl ?_
              refine pi_S (j := 53) (mj := 52) (by decide +kernel) (by decide +kernel) rfl ?_
              show pmE pg X pg_tyl pg_cl (d + 3) 52 0 [.int x3, .int x4] [] (cd f A4 R wr) _
              refine pe_iload_n (j := 0) (by decide +kernel) rfl ?_
              refine pe_bipushv (n := 9) (v := 9) (by decide +kernel) (by decide +kernel) ?_
              refine pz_mul (by decide +kernel) rfl kz_9 (by omega) (by omega) (fun z16 hz16 => ?_)
              refine pe_iload_n (j := 1) (by decide +kernel) rfl ?_
              refine pz_add (by decide +kernel) hz16 rfl (by omega) (by omega) (fun z17 hz17 => ?_)
              clear hz16
              refine pe_iret (by decide +kernel) rfl rfl ⟨rfl, rfl, ?_⟩
              show pmE pg X pg_tyl pg_cl (d + 4) 194 74 [.ref 68, .int x1, .int x2, .int x3, .int x4, .int rq3] [.int z17] (cd f A4 R wr) _
              refine pe_istore_n (j := 1) (ls' := [.ref 68, .int z17, .int x2, .int x3, .int x4, .int rq3]) (by decide +kernel) (Nat.le_of_ble_eq_true rfl) rfl ?_
              refine pe_iload (j := 5) (by decide +kernel) rfl ?_
              refine pe_istore_n (j := 2) (ls' := [.ref 68, .int z17, .int rq3, .int x3, .int x4, .int rq3]) (by decide +kernel) (Nat.le_of_ble_eq_true rfl) rfl ?_
              refine pz_iinc (j := 4) (n := 1) (by decide +kernel) rfl rfl (by decide +kernel) (by omega) (by omega) (fun z18 hz18 => ?_)
              show pmE pg X pg_tyl pg_cl (d + 4) 194 81 [.ref 68, .int z17, .int rq3, .int x3, .int z18, .int rq3] [] (cd f A4 R wr) _
              refine pe_goto (off := (-61)) (t := 20) (by decide +kernel) (by decide) rfl ?_
              exact ih A4 z17 rq3 z18 (.int rq3) hIq3 (fun k n80 n81 n82 => ((hFq3 k n80 n81 n82)).trans ((hF k n80 n81 n82))) (by omega) (by omega) (by omega)
      · skip
        refine pe_iconstv (n := 0) (v := 0) (by decide +kernel) (by decide +kernel) ?_
        refine pe_goto (off := 10) (t := 49) (by decide +kernel) (by decide) rfl ?_
        refine pe_istore (j := 5) (ls' := [.ref 68, .int x1, .int x2, .int x3, .int x4, .int 0]) (by decide +kernel) (Nat.le_of_ble_eq_true rfl) rfl ?_
        refine pe_iload_n (j := 3) (by decide +kernel) rfl ?_
        refine pe_iload (j := 4) (by decide +kernel) rfl ?_
        refine pz_icmp_eq (off := 24) (t := 78) (by decide +kernel) (by decide) rfl rfl rfl (fun h19 => ?_) (fun h19 => ?_)
        · skip
          refine pz_iinc (j := 4) (n := 1) (by decide +kernel) rfl rfl (by decide +kernel) (by omega) (by omega) (fun z20 hz20 => ?_)
          show pmE pg X pg_tyl pg_cl (d + 4) 194 81 [.ref 68, .int x1, .int x2, .int x3, .int z20, .int 0] [] (cd f A R wr) _
          refine pe_goto (off := (-61)) (t := 20) (by decide +kernel) (by decide) rfl ?_
          exact ih A x1 x2 z20 (.int 0) hI (fun k n80 n81 n82 => (hF k n80 n81 n82)) (by omega) (by omega) (by omega)
        · skip
          refine pe_iload_n (j := 1) (by decide +kernel) rfl ?_
          refine pe_iconstv (n := (-1)) (v := (-1)) (by decide +kernel) (by decide +kernel) ?_
          have lw22 := zi_lo x1
          have uw22 := zi_hi x1
          refine pz_icmp_eq (off := 9) (t := 68) (by decide +kernel) (by decide) rfl rfl kz_m1 (fun h21 => ?_) (fun h21 => ?_)
          · skip
            refine pe_iload_n (j := 3) (by decide +kernel) rfl ?_
            refine pe_iload (j := 4) (by decide +kernel) rfl ?_
            refine pi_S (j := 53) (mj := 52) (by decide +kernel) (by decide +kernel) rfl ?_
            show pmE pg X pg_tyl pg_cl (d + 3) 52 0 [.int x3, .int x4] [] (cd f A R wr) _
            refine pe_iload_n (j := 0) (by decide +kernel) rfl ?_
            refine pe_bipushv (n := 9) (v := 9) (by decide +kernel) (by decide +kernel) ?_
            refine pz_mul (by decide +kernel) rfl kz_9 (by omega) (by omega) (fun z23 hz23 => ?_)
            refine pe_iload_n (j := 1) (by decide +kernel) rfl ?_
            refine pz_add (by decide +kernel) hz23 rfl (by omega) (by omega) (fun z24 hz24 => ?_)
            clear hz23
            refine pe_iret (by decide +kernel) rfl rfl ⟨rfl, rfl, ?_⟩
            show pmE pg X pg_tyl pg_cl (d + 4) 194 74 [.ref 68, .int x1, .int x2, .int x3, .int x4, .int 0] [.int z24] (cd f A R wr) _
            refine pe_istore_n (j := 1) (ls' := [.ref 68, .int z24, .int x2, .int x3, .int x4, .int 0]) (by decide +kernel) (Nat.le_of_ble_eq_true rfl) rfl ?_
            refine pe_iload (j := 5) (by decide +kernel) rfl ?_
            refine pe_istore_n (j := 2) (ls' := [.ref 68, .int z24, .int 0, .int x3, .int x4, .int 0]) (by decide +kernel) (Nat.le_of_ble_eq_true rfl) rfl ?_
            refine pz_iinc (j := 4) (n := 1) (by decide +kernel) rfl rfl (by decide +kernel) (by omega) (by omega) (fun z25 hz25 => ?_)
            show pmE pg X pg_tyl pg_cl (d + 4) 194 81 [.ref 68, .int z24, .int 0, .int x3, .int z25, .int 0] [] (cd f A R wr) _
            refine pe_goto (off := (-61)) (t := 20) (by decide +kernel) (by decide) rfl ?_
            exact ih A z24 0 z25 (.int 0) hI (fun k n80 n81 n82 => (hF k n80 n81 n82)) (by omega) (by omega) (by omega)
          · skip
            refine pe_iload (j := 5) (by decide +kernel) rfl ?_
            refine pe_iload_n (j := 2) (by decide +kernel) rfl ?_
            have lw27 := zi_lo x2
            have uw27 := zi_hi x2
            refine pz_icmp_ge (off := 13) (t := 78) (by decide +kernel) (by decide) rfl kz_0 rfl (fun h26 => ?_) (fun h26 => ?_)
            · skip
              refine pz_iinc (j := 4) (n := 1) (by decide +kernel) rfl rfl (by decide +kernel) (by omega) (by omega) (fun z28 hz28 => ?_)
              show pmE pg X pg_tyl pg_cl (d + 4) 194 81 [.ref 68, .int x1, .int x2, .int x3, .int z28, .int 0] [] (cd f A R wr) _
              refine pe_goto (off := (-61)) (t := 20) (by decide +kernel) (by decide) rfl ?_
              exact ih A x1 x2 z28 (.int 0) hI (fun k n80 n81 n82 => (hF k n80 n81 n82)) (by omega) (by omega) (by omega)
            · skip
              refine pe_iload_n (j := 3) (by decide +kernel) rfl ?_
              refine pe_iload (j := 4) (by decide +kernel) rfl ?_
              refine pi_S (j := 53) (mj := 52) (by decide +kernel) (by decide +kernel) rfl ?_
              show pmE pg X pg_tyl pg_cl (d + 3) 52 0 [.int x3, .int x4] [] (cd f A R wr) _
              refine pe_iload_n (j := 0) (by decide +kernel) rfl ?_
              refine pe_bipushv (n := 9) (v := 9) (by decide +kernel) (by decide +kernel) ?_
              refine pz_mul (by decide +kernel) rfl kz_9 (by omega) (by omega) (fun z29 hz29 => ?_)
              refine pe_iload_n (j := 1) (by decide +kernel) rfl ?_
              refine pz_add (by decide +kernel) hz29 rfl (by omega) (by omega) (fun z30 hz30 => ?_)
              clear hz29
              refine pe_iret (by decide +kernel) rfl rfl ⟨rfl, rfl, ?_⟩
              show pmE pg X pg_tyl pg_cl (d + 4) 194 74 [.ref 68, .int x1, .int x2, .int x3, .int x4, .int 0] [.int z30] (cd f A R wr) _
              refine pe_istore_n (j := 1) (ls' := [.ref 68, .int z30, .int x2, .int x3, .int x4, .int 0]) (by decide +kernel) (Nat.le_of_ble_eq_true rfl) rfl ?_
              refine pe_iload (j := 5) (by decide +kernel) rfl ?_
              refine pe_istore_n (j := 2) (ls' := [.ref 68, .int z30, .int 0, .int x3, .int x4, .int 0]) (by decide +kernel) (Nat.le_of_ble_eq_true rfl) rfl ?_
              refine pz_iinc (j := 4) (n := 1) (by decide +kernel) rfl rfl (by decide +kernel) (by omega) (by omega) (fun z31 hz31 => ?_)
              show pmE pg X pg_tyl pg_cl (d + 4) 194 81 [.ref 68, .int z30, .int 0, .int x3, .int z31, .int 0] [] (cd f A R wr) _
              refine pe_goto (off := (-61)) (t := 20) (by decide +kernel) (by decide) rfl ?_
              exact ih A z30 0 z31 (.int 0) hI (fun k n80 n81 n82 => (hF k n80 n81 n82)) (by omega) (by omega) (by omega)
set_option maxRecDepth 100000 in
set_option maxHeartbeats 8000000 in
theorem CL_194_6 {X : pm_X} {d : Nat} {wr : pm_W} {Q : pm_R → Prop} {f : Nat → Int32} {A0 : Nat → List Int32} {R : Nat → Value} {v : Nat} (hX : XO X) (hv : VV v) (hR3 : R 3 = .ref v) (k_90_0 : ∀ (A' : Nat → List Int32) (y1 : Int32) (y2 : Int32) (y3 : Int32) (v4 : Value) (v5 : Value), CI f A' R → (∀ k : Nat, k ≠ 80 → k ≠ 81 → k ≠ 82 → A' k = A0 k) → ((-1) ≤ y1.toInt) → (0 ≤ y3.toInt ∧ y3.toInt ≤ 9) → pmE pg X pg_tyl pg_cl (d + 4) 194 90 [.ref 68, .int y1, .int y2, .int y3, v4, v5] [] (cd f A' R wr) Q) : ∀ (m : Nat) (A : Nat → List Int32) (x1 : Int32) (x2 : Int32) (x3 : Int32) (u4 : Value) (u5 : Value), CI f A R → (∀ k : Nat, k ≠ 80 → k ≠ 81 → k ≠ 82 → A k = A0 k) → ((-1) ≤ x1.toInt) → (0 ≤ x3.toInt ∧ x3.toInt ≤ 9) → 9 - x3.toInt < (m : Int) → pmE pg X pg_tyl pg_cl (d + 4) 194 6 [.ref 68, .int x1, .int x2, .int x3, u4, u5] [] (cd f A R wr) Q := by
  have bv := VV_b hv
  intro m
  induction m with
  | zero =>
    intro A x1 x2 x3 u4 u5 hI hF gx1 gx3 hm
    exfalso
    have l0 := zi_lo x3
    have u0 := zi_hi x3
    omega
  | succ m ih =>
    intro A x1 x2 x3 u4 u5 hI hF gx1 gx3 hm
    refine pe_iload_n (j := 3) (by decide +kernel) rfl ?_
    refine pe_aload_n (j := 0) (by decide +kernel) rfl ?_
    refine pe_get (j := 12) (ci := 10) (n := 0) (by decide +kernel) (by decide +kernel) cd_o68 rfl ?_
    refine pe_topV (v := .ref v) (hR3) ?_
    refine pe_get (j := 49) (ci := 9) (n := 0) (by decide +kernel) (by decide +kernel) (cv_o hv) rfl ?_
    have hr_f_16v := cv_people hv hI
    refine pz_icmp_ge (off := 76) (t := 90) (by decide +kernel) (by decide) rfl rfl rfl (fun h1 => ?_) (fun h1 => ?_)
    · skip
      exact k_90_0 A x1 x2 x3 (u4) (u5) hI (fun k n80 n81 n82 => (hF k n80 n81 n82)) (by omega) (by omega)
    · skip
      refine pe_iconstv (n := 0) (v := 0) (by decide +kernel) (by decide +kernel) ?_
      refine pe_istore (j := 4) (ls' := [.ref 68, .int x1, .int x2, .int x3, .int 0, u5]) (by decide +kernel) (Nat.le_of_ble_eq_true rfl) rfl ?_
      refine CL_194_20 hX hv (hR3) (by omega) (fun A2 y3 y4 y5 u6 hIy7 hFA2 gy3 gy5 => ?_) 10 A x1 x2 0 (u5) hI (fun k _ _ _ => rfl) (by omega) (by decide +kernel) (by decide +kernel)
      refine pz_iinc (j := 3) (n := 1) (by decide +kernel) rfl rfl (by decide +kernel) (by omega) (by omega) (fun z8 hz8 => ?_)
      show pmE pg X pg_tyl pg_cl (d + 4) 194 87 [.ref 68, .int y3, .int y4, .int z8, .int y5, u6] [] (cd f A2 R wr) _
      refine pe_goto (off := (-81)) (t := 6) (by decide +kernel) (by decide) rfl ?_
      exact ih A2 y3 y4 z8 (.int y5) (u6) hIy7 (fun k n80 n81 n82 => ((hFA2 k n80 n81 n82)).trans ((hF k n80 n81 n82))) (by omega) (by omega) (by omega)
set_option maxRecDepth 100000 in
set_option maxHeartbeats 8000000 in
theorem CM_194 {X : pm_X} {d : Nat} {wr : pm_W} {f : Nat → Int32} {A : Nat → List Int32} {R : Nat → Value} {v : Nat} (hX : XO X) (hI : CI f A R) (hv : VV v) (hR3 : R 3 = .ref v) : pmE pg X pg_tyl pg_cl (d + 4) 194 0 (pm_ent (pm_max pg 194) [.ref 68]) [] (cd f A R wr) (fun q => ∃ (A' : Nat → List Int32) (r : Int32), q = (some (.int r), cd f A' R wr, 0, 0) ∧ CI f A' R ∧ (∀ k : Nat, k ≠ 80 → k ≠ 81 → k ≠ 82 → A' k = A k) ∧ ((((-1) ≤ r.toInt) ∧ True))) := by
  have bv := VV_b hv
  show pmE pg X pg_tyl pg_cl (d + 4) 194 0 [.ref 68, pm_dead, pm_dead, pm_dead, pm_dead, pm_dead] [] (cd f A R wr) _
  refine pe_iconstv (n := (-1)) (v := (-1)) (by decide +kernel) (by decide +kernel) ?_
  refine pe_istore_n (j := 1) (ls' := [.ref 68, .int (-1), pm_dead, pm_dead, pm_dead, pm_dead]) (by decide +kernel) (Nat.le_of_ble_eq_true rfl) rfl ?_
  refine pe_iconstv (n := 0) (v := 0) (by decide +kernel) (by decide +kernel) ?_
  refine pe_istore_n (j := 2) (ls' := [.ref 68, .int (-1), .int 0, pm_dead, pm_dead, pm_dead]) (by decide +kernel) (Nat.le_of_ble_eq_true rfl) rfl ?_
  refine pe_iconstv (n := 0) (v := 0) (by decide +kernel) (by decide +kernel) ?_
  refine pe_istore_n (j := 3) (ls' := [.ref 68, .int (-1), .int 0, .int 0, pm_dead, pm_dead]) (by decide +kernel) (Nat.le_of_ble_eq_true rfl) rfl ?_
  refine CL_194_6 hX hv (hR3) (fun A1 y2 y3 y4 u5 u6 hIy7 hFA1 gy2 gy4 => ?_) 10 A (-1) 0 0 (pm_dead) (pm_dead) hI (fun k _ _ _ => rfl) (by decide +kernel) (by decide +kernel) (by decide +kernel)
  refine pe_iload_n (j := 1) (by decide +kernel) rfl ?_
  exact pe_iret (by decide +kernel) rfl rfl ⟨A1, y2, rfl, hIy7, (fun k n80 n81 n82 => (hFA1 k n80 n81 n82)), ⟨(by omega), trivial⟩⟩
set_option maxRecDepth 100000 in
set_option maxHeartbeats 8000000 in
theorem CL_170_20 {X : pm_X} {d : Nat} {wr : pm_W} {Q : pm_R → Prop} {f : Nat → Int32} {A0 : Nat → List Int32} {R : Nat → Value} {x1 : Int32} {v : Nat} (hX : XO X) (hv : VV v) (hR3 : R 3 = .ref v) (k_185_0 : ∀ (A' : Nat → List Int32) (y2 : Int32) (y3 : Int32) (v4 : Value) (v5 : Value) (v6 : Value) (v7 : Value), CI f A' R → (∀ k : Nat, k ≠ 75 → k ≠ 76 → A' k = A0 k) → (0 ≤ y3.toInt ∧ y3.toInt ≤ 7) → pmE pg X pg_tyl pg_cl (d + 1) 170 185 [.ref 68, .int x1, .int y2, .int y3, v4, v5, v6, v7] [] (cd f A' R wr) Q) : ∀ (m : Nat) (A : Nat → List Int32) (x2 : Int32) (x3 : Int32) (u4 : Value) (u5 : Value) (u6 : Value) (u7 : Value), CI f A R → (∀ k : Nat, k ≠ 75 → k ≠ 76 → A k = A0 k) → (0 ≤ x3.toInt ∧ x3.toInt ≤ 7) → 7 - x3.toInt < (m : Int) → pmE pg X pg_tyl pg_cl (d + 1) 170 20 [.ref 68, .int x1, .int x2, .int x3, u4, u5, u6, u7] [] (cd f A R wr) Q := by
  have bv := VV_b hv
  intro m
  induction m with
  | zero =>
    intro A x2 x3 u4 u5 u6 u7 hI hF gx3 hm
    exfalso
    have l0 := zi_lo x3
    have u0 := zi_hi x3
    omega
  | succ m ih =>
    intro A x2 x3 u4 u5 u6 u7 hI hF gx3 hm
    refine pe_iload_n (j := 3) (by decide +kernel) rfl ?_
    refine pe_aload_n (j := 0) (by decide +kernel) rfl ?_
    refine pe_get (j := 12) (ci := 10) (n := 0) (by decide +kernel) (by decide +kernel) cd_o68 rfl ?_
    refine pe_topV (v := .ref v) (hR3) ?_
    refine pe_get (j := 60) (ci := 9) (n := 2) (by decide +kernel) (by decide +kernel) (cv_o hv) rfl ?_
    have hr_f_16v2 := cv_wants hv hI
    refine pz_icmp_ge (off := 157) (t := 185) (by decide +kernel) (by decide) rfl rfl rfl (fun h1 => ?_) (fun h1 => ?_)
    · skip
      exact k_185_0 A x2 x3 (u4) (u5) (u6) (u7) hI (fun k n75 n76 => (hF k n75 n76)) (by omega)
    · skip
      refine pe_iload_n (j := 1) (by decide +kernel) rfl ?_
      refine pe_iload_n (j := 3) (by decide +kernel) rfl ?_
      refine pi_S (j := 88) (mj := 89) (by decide +kernel) (by decide +kernel) rfl ?_
      show pmE pg X pg_tyl pg_cl (d) 89 0 [.int x1, .int x3] [] (cd f A R wr) _
      refine pe_iload_n (j := 0) (by decide +kernel) rfl ?_
      refine pe_iload_n (j := 1) (by decide +kernel) rfl ?_
      refine pw_shr (by decide +kernel) (fun z2 => ?_)
      refine pe_iconstv (n := 1) (v := 1) (by decide +kernel) (by decide +kernel) ?_
      refine pz_and1 (by decide +kernel) (fun z3 hz3 => ?_)
      refine pz_if_eq (off := 7) (t := 12) (by decide +kernel) (by decide) rfl rfl (fun h4 => ?_) (fun h4 => ?_)
      · skip
        refine pe_iconstv (n := 0) (v := 0) (by decide +kernel) (by decide +kernel) ?_
        refine pe_iret (by decide +kernel) rfl rfl ⟨rfl, rfl, ?_⟩
        show pmE pg X pg_tyl pg_cl (d + 1) 170 36 [.ref 68, .int x1, .int x2, .int x3, u4, u5, u6, u7] [.int 0] (cd f A R wr) _
        refine pz_if_eq (off := 143) (t := 179) (by decide +kernel) (by decide) rfl kz_0 (fun h5 => ?_) (fun h5 => by omega)
        refine pz_iinc (j := 3) (n := 1) (by decide +kernel) rfl rfl (by decide +kernel) (by omega) (by omega) (fun z6 hz6 => ?_)
        show pmE pg X pg_tyl pg_cl (d + 1) 170 182 [.ref 68, .int x1, .int x2, .int z6, u4, u5, u6, u7] [] (cd f A R wr) _
        refine pe_goto (off := (-162)) (t := 20) (by decide +kernel) (by decide) rfl ?_
        exact ih A x2 z6 (u4) (u5) (u6) (u7) hI (fun k n75 n76 => (hF k n75 n76)) (by omega) (by omega)
      · skip
        refine pe_iconstv (n := 1) (v := 1) (by decide +kernel) (by decide +kernel) ?_
        refine pe_goto (off := 4) (t := 13) (by decide +kernel) (by decide) rfl ?_
        refine pe_iret (by decide +kernel) rfl rfl ⟨rfl, rfl, ?_⟩
        show pmE pg X pg_tyl pg_cl (d + 1) 170 36 [.ref 68, .int x1, .int x2, .int x3, u4, u5, u6, u7] [.int 1] (cd f A R wr) _
        refine pz_if_eq (off := 143) (t := 179) (by decide +kernel) (by decide) rfl kz_1 (fun h7 => by omega) (fun h7 => ?_)
        refine pe_aload_n (j := 0) (by decide +kernel) rfl ?_
        refine pe_get (j := 12) (ci := 10) (n := 0) (by decide +kernel) (by decide +kernel) cd_o68 rfl ?_
        refine pe_topV (v := .ref v) (hR3) ?_
        refine pe_iload_n (j := 3) (by decide +kernel) rfl ?_
        refine pe_iconstv (n := 2) (v := 2) (by decide +kernel) (by decide +kernel) ?_
        refine pi_V (j := 66) (mj := 65) (by decide +kernel) (cll_V (args := [.int 2, .int x3]) (n := 2) (by decide +kernel) rfl rfl (cv_o hv) (by decide +kernel) (Nat.le_of_ble_eq_true rfl) (Nat.le_of_ble_eq_true rfl)) ?_
        show pmE pg X pg_tyl pg_cl (d) 65 0 [.ref v, .int x3, .int 2] [] (cd f A R wr) _
        refine pe_aload_n (j := 0) (by decide +kernel) rfl ?_
        refine pe_get (j := 25) (ci := 9) (n := 6) (by decide +kernel) (by decide +kernel) (cv_o hv) rfl ?_
        refine pe_iload_n (j := 1) (by decide +kernel) rfl ?_
        refine pe_iconstv (n := 4) (v := 4) (by decide +kernel) (by decide +kernel) ?_
        refine pz_mul (by decide +kernel) rfl kz_4 (by omega) (by omega) (fun z8 hz8 => ?_)
        refine pe_iload_n (j := 2) (by decide +kernel) rfl ?_
        refine pz_add (by decide +kernel) hz8 kz_2 (by omega) (by omega) (fun z9 hz9 => ?_)
        clear hz8
        refine pz_iald (by decide +kernel) (cv_a4 hv) (cv_l4 hv hI) hz9 (by omega) (by omega) (fun v10 ev10 => ?_)
        rw [show A (v + 4) = A0 (v + 4) from (hF (v + 4) (by omega) (by omega))] at ev10
        clear hz9
        refine pe_iret (by decide +kernel) rfl rfl ⟨rfl, rfl, ?_⟩
        show pmE pg X pg_tyl pg_cl (d + 1) 170 48 [.ref 68, .int x1, .int x2, .int x3, u4, u5, u6, u7] [.int v10] (cd f A R wr) _
        refine pe_istore (j := 4) (ls' := [.ref 68, .int x1, .int x2, .int x3, .int v10, u5, u6, u7]) (by decide +kernel) (Nat.le_of_ble_eq_true rfl) rfl ?_
        refine pe_aload_n (j := 0) (by decide +kernel) rfl ?_
        refine pe_get (j := 12) (ci := 10) (n := 0) (by decide +kernel) (by decide +kernel) cd_o68 rfl ?_
        refine pe_topV (v := .ref v) (hR3) ?_
        refine pe_iload_n (j := 3) (by decide +kernel) rfl ?_
        refine pe_iconstv (n := 0) (v := 0) (by decide +kernel) (by decide +kernel) ?_
        refine pi_V (j := 66) (mj := 65) (by decide +kernel) (cll_V (args := [.int 0, .int x3]) (n := 2) (by decide +kernel) rfl rfl (cv_o hv) (by decide +kernel) (Nat.le_of_ble_eq_true rfl) (Nat.le_of_ble_eq_true rfl)) ?_
        show pmE pg X pg_tyl pg_cl (d) 65 0 [.ref v, .int x3, .int 0] [] (cd f A R wr) _
        refine pe_aload_n (j := 0) (by decide +kernel) rfl ?_
        refine pe_get (j := 25) (ci := 9) (n := 6) (by decide +kernel) (by decide +kernel) (cv_o hv) rfl ?_
        refine pe_iload_n (j := 1) (by decide +kernel) rfl ?_
        refine pe_iconstv (n := 4) (v := 4) (by decide +kernel) (by decide +kernel) ?_
        refine pz_mul (by decide +kernel) rfl kz_4 (by omega) (by omega) (fun z11 hz11 => ?_)
        refine pe_iload_n (j := 2) (by decide +kernel) rfl ?_
        refine pz_add (by decide +kernel) hz11 kz_0 (by omega) (by omega) (fun z12 hz12 => ?_)
        clear hz11
        refine pz_iald (by decide +kernel) (cv_a4 hv) (cv_l4 hv hI) hz12 (by omega) (by omega) (fun v13 ev13 => ?_)
        have rv13 : 0 ≤ v13.toInt ∧ v13.toInt ≤ 8 := ct0_m (cv_t4 hv hI ev13) (by omega)
        rw [show A (v + 4) = A0 (v + 4) from (hF (v + 4) (by omega) (by omega))] at ev13
        clear hz12
        refine pe_iret (by decide +kernel) rfl rfl ⟨rfl, rfl, ?_⟩
        show pmE pg X pg_tyl pg_cl (d + 1) 170 59 [.ref 68, .int x1, .int x2, .int x3, .int v10, u5, u6, u7] [.int v13] (cd f A R wr) _
        refine pe_istore (j := 5) (ls' := [.ref 68, .int x1, .int x2, .int x3, .int v10, .int v13, u6, u7]) (by decide +kernel) (Nat.le_of_ble_eq_true rfl) rfl ?_
        refine pe_aload_n (j := 0) (by decide +kernel) rfl ?_
        refine pe_get (j := 12) (ci := 10) (n := 0) (by decide +kernel) (by decide +kernel) cd_o68 rfl ?_
        refine pe_topV (v := .ref v) (hR3) ?_
        refine pe_iload_n (j := 3) (by decide +kernel) rfl ?_
        refine pe_iconstv (n := 1) (v := 1) (by decide +kernel) (by decide +kernel) ?_
        refine pi_V (j := 66) (mj := 65) (by decide +kernel) (cll_V (args := [.int 1, .int x3]) (n := 2) (by decide +kernel) rfl rfl (cv_o hv) (by decide +kernel) (Nat.le_of_ble_eq_true rfl) (Nat.le_of_ble_eq_true rfl)) ?_
        show pmE pg X pg_tyl pg_cl (d) 65 0 [.ref v, .int x3, .int 1] [] (cd f A R wr) _
        refine pe_aload_n (j := 0) (by decide +kernel) rfl ?_
        refine pe_get (j := 25) (ci := 9) (n := 6) (by decide +kernel) (by decide +kernel) (cv_o hv) rfl ?_
        refine pe_iload_n (j := 1) (by decide +kernel) rfl ?_
        refine pe_iconstv (n := 4) (v := 4) (by decide +kernel) (by decide +kernel) ?_
        refine pz_mul (by decide +kernel) rfl kz_4 (by omega) (by omega) (fun z14 hz14 => ?_)
        refine pe_iload_n (j := 2) (by decide +kernel) rfl ?_
        refine pz_add (by decide +kernel) hz14 kz_1 (by omega) (by omega) (fun z15 hz15 => ?_)
        clear hz14
        refine pz_iald (by decide +kernel) (cv_a4 hv) (cv_l4 hv hI) hz15 (by omega) (by omega) (fun v16 ev16 => ?_)
        have rv16 : 0 ≤ v16.toInt ∧ v16.toInt ≤ 8 := ct0_m (cv_t4 hv hI ev16) (by omega)
        rw [show A (v + 4) = A0 (v + 4) from (hF (v + 4) (by omega) (by omega))] at ev16
        clear hz15
        refine pe_iret (by decide +kernel) rfl rfl ⟨rfl, rfl, ?_⟩
        show pmE pg X pg_tyl pg_cl (d + 1) 170 70 [.ref 68, .int x1, .int x2, .int x3, .int v10, .int v13, u6, u7] [.int v16] (cd f A R wr) _
        refine pe_istore (j := 6) (ls' := [.ref 68, .int x1, .int x2, .int x3, .int v10, .int v13, .int v16, u7]) (by decide +kernel) (Nat.le_of_ble_eq_true rfl) rfl ?_
        refine pe_iconstv (n := 0) (v := 0) (by decide +kernel) (by decide +kernel) ?_
        refine pe_aload_n (j := 0) (by decide +kernel) rfl ?_
        refine pe_get (j := 22) (ci := 10) (n := 2) (by decide +kernel) (by decide +kernel) cd_o68 rfl ?_
        refine pe_iload (j := 5) (by decide +kernel) rfl ?_
        refine pe_iload (j := 6) (by decide +kernel) rfl ?_
        refine pi_S (j := 53) (mj := 52) (by decide +kernel) (by decide +kernel) rfl ?_
        show pmE pg X pg_tyl pg_cl (d) 52 0 [.int v13, .int v16] [] (cd f A R wr) _
        refine pe_iload_n (j := 0) (by decide +kernel) rfl ?_
        refine pe_bipushv (n := 9) (v := 9) (by decide +kernel) (by decide +kernel) ?_
        refine pz_mul (by decide +kernel) rfl kz_9 (by omega) (by omega) (fun z17 hz17 => ?_)
        refine pe_iload_n (j := 1) (by decide +kernel) rfl ?_
        refine pz_add (by decide +kernel) hz17 rfl (by omega) (by omega) (fun z18 hz18 => ?_)
        clear hz17
        refine pe_iret (by decide +kernel) rfl rfl ⟨rfl, rfl, ?_⟩
        show pmE pg X pg_tyl pg_cl (d + 1) 170 84 [.ref 68, .int x1, .int x2, .int x3, .int v10, .int v13, .int v16, u7] [.int z18, .ref 75, .int 0] (cd f A R wr) _
        refine pz_iald (by decide +kernel) cd_a75 (cl_75 hI) hz18 (by omega) (by omega) (fun v19 ev19 => ?_)
        clear hz18
        refine pe_aload_n (j := 0) (by decide +kernel) rfl ?_
        refine pe_get (j := 18) (ci := 10) (n := 1) (by decide +kernel) (by decide +kernel) cd_o68 rfl ?_
        refine pe_iload (j := 5) (by decide +kernel) rfl ?_
        refine pe_iload (j := 6) (by decide +kernel) rfl ?_
        refine pi_S (j := 53) (mj := 52) (by decide +kernel) (by decide +kernel) rfl ?_
        show pmE pg X pg_tyl pg_cl (d) 52 0 [.int v13, .int v16] [] (cd f A R wr) _
        refine pe_iload_n (j := 0) (by decide +kernel) rfl ?_
        refine pe_bipushv (n := 9) (v := 9) (by decide +kernel) (by decide +kernel) ?_
        refine pz_mul (by decide +kernel) rfl kz_9 (by omega) (by omega) (fun z20 hz20 => ?_)
        refine pe_iload_n (j := 1) (by decide +kernel) rfl ?_
        refine pz_add (by decide +kernel) hz20 rfl (by omega) (by omega) (fun z21 hz21 => ?_)
        clear hz20
        refine pe_iret (by decide +kernel) rfl rfl ⟨rfl, rfl, ?_⟩
        show pmE pg X pg_tyl pg_cl (d + 1) 170 96 [.ref 68, .int x1, .int x2, .int x3, .int v10, .int v13, .int v16, u7] [.int z21, .ref 74, .int v19, .int 0] (cd f A R wr) _
        refine pz_iald (by decide +kernel) cd_a74 (cl_74 hI) hz21 (by omega) (by omega) (fun v22 ev22 => ?_)
        rw [show A 74 = A0 74 from (hF 74 (by decide) (by decide))] at ev22
        clear hz21
        refine pw_sub (by decide +kernel) (fun z23 => ?_)
        have hl25 := kz_0
        have lw26 := zi_lo z23
        have uw26 := zi_hi z23
        refine pz_max (j := 92) (c := 2147483647) (by decide +kernel) (by decide +kernel) (Nat.le_of_ble_eq_true rfl) kz_0 rfl (by omega) (by omega) (fun z24 hz24 => ?_)
        refine pe_istore (j := 7) (ls' := [.ref 68, .int x1, .int x2, .int x3, .int v10, .int v13, .int v16, .int z24]) (by decide +kernel) (Nat.le_of_ble_eq_true rfl) rfl ?_
        refine pe_aload_n (j := 0) (by decide +kernel) rfl ?_
        refine pe_get (j := 22) (ci := 10) (n := 2) (by decide +kernel) (by decide +kernel) cd_o68 rfl ?_
        refine pe_iload (j := 5) (by decide +kernel) rfl ?_
        refine pe_iload (j := 6) (by decide +kernel) rfl ?_
        refine pi_S (j := 53) (mj := 52) (by decide +kernel) (by decide +kernel) rfl ?_
        show pmE pg X pg_tyl pg_cl (d) 52 0 [.int v13, .int v16] [] (cd f A R wr) _
        refine pe_iload_n (j := 0) (by decide +kernel) rfl ?_
        refine pe_bipushv (n := 9) (v := 9) (by decide +kernel) (by decide +kernel) ?_
        refine pz_mul (by decide +kernel) rfl kz_9 (by omega) (by omega) (fun z27 hz27 => ?_)
        refine pe_iload_n (j := 1) (by decide +kernel) rfl ?_
        refine pz_add (by decide +kernel) hz27 rfl (by omega) (by omega) (fun z28 hz28 => ?_)
        clear hz27
        refine pe_iret (by decide +kernel) rfl rfl ⟨rfl, rfl, ?_⟩
        show pmE pg X pg_tyl pg_cl (d + 1) 170 114 [.ref 68, .int x1, .int x2, .int x3, .int v10, .int v13, .int v16, .int z24] [.int z28, .ref 75] (cd f A R wr) _
        refine pe_dup2 (by decide +kernel) ⟨rfl, rfl⟩ ?_
        refine pz_iald (by decide +kernel) cd_a75 (cl_75 hI) hz28 (by omega) (by omega) (fun v29 ev29 => ?_)
        rw [ev29.trans ev19.symm]
        clear ev29 v29
        refine pe_iload (j := 4) (by decide +kernel) rfl ?_
        refine pw_add (by decide +kernel) (fun z30 => ?_)
        refine cz_st75 (by decide +kernel) hI hz28 (by omega) (by omega) (fun A31 eA31 hIA31 => ?_)
        refine pe_iload_n (j := 2) (by decide +kernel) rfl ?_
        refine pe_iconstv (n := 0) (v := 0) (by decide +kernel) (by decide +kernel) ?_
        refine pe_aload_n (j := 0) (by decide +kernel) rfl ?_
        refine pe_get (j := 22) (ci := 10) (n := 2) (by decide +kernel) (by decide +kernel) cd_o68 rfl ?_
        refine pe_iload (j := 5) (by decide +kernel) rfl ?_
        refine pe_iload (j := 6) (by decide +kernel) rfl ?_
        refine pi_S (j := 53) (mj := 52) (by decide +kernel) (by decide +kernel) rfl ?_
        show pmE pg X pg_tyl pg_cl (d) 52 0 [.int v13, .int v16] [] (cd f A31 R wr) _
        refine pe_iload_n (j := 0) (by decide +kernel) rfl ?_
        refine pe_bipushv (n := 9) (v := 9) (by decide +kernel) (by decide +kernel) ?_
        refine pz_mul (by decide +kernel) rfl kz_9 (by omega) (by omega) (fun z32 hz32 => ?_)
        refine pe_iload_n (j := 1) (by decide +kernel) rfl ?_
        refine pz_add (by decide +kernel) hz32 rfl (by omega) (by omega) (fun z33 hz33 => ?_)
        clear hz32
        refine pe_iret (by decide +kernel) rfl rfl ⟨rfl, rfl, ?_⟩
        show pmE pg X pg_tyl pg_cl (d + 1) 170 133 [.ref 68, .int x1, .int x2, .int x3, .int v10, .int v13, .int v16, .int z24] [.int z33, .ref 75, .int 0, .int x2] (cd f A31 R wr) _
        refine pz_iald (by decide +kernel) cd_a75 (cl_75 hIA31) hz33 (by omega) (by omega) (fun v34 ev34 => ?_)
        clear hz33
        refine pe_aload_n (j := 0) (by decide +kernel) rfl ?_
        refine pe_get (j := 18) (ci := 10) (n := 1) (by decide +kernel) (by decide +kernel) cd_o68 rfl ?_
        refine pe_iload (j := 5) (by decide +kernel) rfl ?_
        refine pe_iload (j := 6) (by decide +kernel) rfl ?_
        refine pi_S (j := 53) (mj := 52) (by decide +kernel) (by decide +kernel) rfl ?_
        show pmE pg X pg_tyl pg_cl (d) 52 0 [.int v13, .int v16] [] (cd f A31 R wr) _
        refine pe_iload_n (j := 0) (by decide +kernel) rfl ?_
        refine pe_bipushv (n := 9) (v := 9) (by decide +kernel) (by decide +kernel) ?_
        refine pz_mul (by decide +kernel) rfl kz_9 (by omega) (by omega) (fun z35 hz35 => ?_)
        refine pe_iload_n (j := 1) (by decide +kernel) rfl ?_
        refine pz_add (by decide +kernel) hz35 rfl (by omega) (by omega) (fun z36 hz36 => ?_)
        clear hz35
        refine pe_iret (by decide +kernel) rfl rfl ⟨rfl, rfl, ?_⟩
        show pmE pg X pg_tyl pg_cl (d + 1) 170 145 [.ref 68, .int x1, .int x2, .int x3, .int v10, .int v13, .int v16, .int z24] [.int z36, .ref 74, .int v34, .int 0, .int x2] (cd f A31 R wr) _
        refine pz_iald (by decide +kernel) cd_a74 (cl_74 hIA31) hz36 (by omega) (by omega) (fun v37 ev37 => ?_)
        rw [show A31 74 = A0 74 from (upa_fr eA31 (by decide)).trans ((hF 74 (by decide) (by decide)))] at ev37
        rw [ev37.trans ev22.symm]
        clear ev37 v37
        clear hz36
        refine pw_sub (by decide +kernel) (fun z38 => ?_)
        have hl40 := kz_0
        have lw41 := zi_lo z38
        have uw41 := zi_hi z38
        refine pz_max (j := 92) (c := 2147483647) (by decide +kernel) (by decide +kernel) (Nat.le_of_ble_eq_true rfl) kz_0 rfl (by omega) (by omega) (fun z39 hz39 => ?_)
        refine pe_iload (j := 7) (by decide +kernel) rfl ?_
        have lw43 := zi_lo z39
        have uw43 := zi_hi z39
        have lw44 := zi_lo z24
        have uw44 := zi_hi z24
        refine pz_sub (by decide +kernel) rfl rfl (by omega) (by omega) (fun z42 hz42 => ?_)
        refine pw_add (by decide +kernel) (fun z45 => ?_)
        clear hz42
        refine pe_istore_n (j := 2) (ls' := [.ref 68, .int x1, .int z45, .int x3, .int v10, .int v13, .int v16, .int z24]) (by decide +kernel) (Nat.le_of_ble_eq_true rfl) rfl ?_
        refine pe_aload_n (j := 0) (by decide +kernel) rfl ?_
        refine pe_get (j := 25) (ci := 10) (n := 3) (by decide +kernel) (by decide +kernel) cd_o68 rfl ?_
        refine pe_iload (j := 5) (by decide +kernel) rfl ?_
        refine pe_dup2 (by decide +kernel) ⟨rfl, rfl⟩ ?_
        refine pz_iald (by decide +kernel) cd_a76 (cl_76 hIA31) rfl (by omega) (by omega) (fun v46 ev46 => ?_)
        rw [show A31 76 = A 76 from upa_fr eA31 (by decide)] at ev46
        refine pe_iload (j := 4) (by decide +kernel) rfl ?_
        refine pw_sub (by decide +kernel) (fun z47 => ?_)
        refine cz_st76 (by decide +kernel) hIA31 rfl (by omega) (by omega) (fun A48 eA48 hIA48 => ?_)
        refine pe_aload_n (j := 0) (by decide +kernel) rfl ?_
        refine pe_get (j := 25) (ci := 10) (n := 3) (by decide +kernel) (by decide +kernel) cd_o68 rfl ?_
        refine pe_iload (j := 6) (by decide +kernel) rfl ?_
        refine pe_dup2 (by decide +kernel) ⟨rfl, rfl⟩ ?_
        refine pz_iald (by decide +kernel) cd_a76 (cl_76 hIA48) rfl (by omega) (by omega) (fun v49 ev49 => ?_)
        refine pe_iload (j := 4) (by decide +kernel) rfl ?_
        refine pw_add (by decide +kernel) (fun z50 => ?_)
        refine cz_st76 (by decide +kernel) hIA48 rfl (by omega) (by omega) (fun A51 eA51 hIA51 => ?_)
        refine pz_iinc (j := 3) (n := 1) (by decide +kernel) rfl rfl (by decide +kernel) (by omega) (by omega) (fun z52 hz52 => ?_)
        show pmE pg X pg_tyl pg_cl (d + 1) 170 182 [.ref 68, .int x1, .int z45, .int z52, .int v10, .int v13, .int v16, .int z24] [] (cd f A51 R wr) _
        refine pe_goto (off := (-162)) (t := 20) (by decide +kernel) (by decide) rfl ?_
        exact ih A51 z45 z52 (.int v10) (.int v13) (.int v16) (.int z24) hIA51 (fun k n75 n76 => (upa_fr eA51 n76).trans ((upa_fr eA48 n76).trans ((upa_fr eA31 n75).trans ((hF k n75 n76))))) (by omega) (by omega)
set_option maxRecDepth 100000 in
set_option maxHeartbeats 8000000 in
theorem CM_170 {X : pm_X} {d : Nat} {wr : pm_W} {f : Nat → Int32} {A : Nat → List Int32} {R : Nat → Value} {x1 : Int32} {v : Nat} (hX : XO X) (hI : CI f A R) (hv : VV v) (hR3 : R 3 = .ref v) : pmE pg X pg_tyl pg_cl (d + 1) 170 0 (pm_ent (pm_max pg 170) [.ref 68, .int x1]) [] (cd f A R wr) (fun q => ∃ (A' : Nat → List Int32) (r : Int32), q = (some (.int r), cd f A' R wr, 0, 0) ∧ CI f A' R ∧ (∀ k : Nat, k ≠ 75 → k ≠ 76 → A' k = A k) ∧ ((True ∧ True))) := by
  have bv := VV_b hv
  show pmE pg X pg_tyl pg_cl (d + 1) 170 0 [.ref 68, .int x1, pm_dead, pm_dead, pm_dead, pm_dead, pm_dead, pm_dead] [] (cd f A R wr) _
  refine pe_aload_n (j := 0) (by decide +kernel) rfl ?_
  refine pe_get (j := 22) (ci := 10) (n := 2) (by decide +kernel) (by decide +kernel) cd_o68 rfl ?_
  refine pe_iconstv (n := 0) (v := 0) (by decide +kernel) (by decide +kernel) ?_
  refine cz_fill (j := 82) (k := 75) (n := 81) (by decide +kernel) (by decide +kernel) rfl cd_a75 (fun _ => cd_s75) hI (cl_75 hI) (by decide +kernel) (ct_no (by decide +kernel)) (fun A1 eA1 hIA1 => ?_)
  refine pe_aload_n (j := 0) (by decide +kernel) rfl ?_
  refine pe_get (j := 25) (ci := 10) (n := 3) (by decide +kernel) (by decide +kernel) cd_o68 rfl ?_
  refine pe_iconstv (n := 0) (v := 0) (by decide +kernel) (by decide +kernel) ?_
  refine cz_fill (j := 82) (k := 76) (n := 9) (by decide +kernel) (by decide +kernel) rfl cd_a76 (fun _ => cd_s76) hIA1 (cl_76 hIA1) (by decide +kernel) (ct_no (by decide +kernel)) (fun A2 eA2 hIA2 => ?_)
  refine pe_iconstv (n := 0) (v := 0) (by decide +kernel) (by decide +kernel) ?_
  refine pe_istore_n (j := 2) (ls' := [.ref 68, .int x1, .int 0, pm_dead, pm_dead, pm_dead, pm_dead, pm_dead]) (by decide +kernel) (Nat.le_of_ble_eq_true rfl) rfl ?_
  refine pe_iconstv (n := 0) (v := 0) (by decide +kernel) (by decide +kernel) ?_
  refine pe_istore_n (j := 3) (ls' := [.ref 68, .int x1, .int 0, .int 0, pm_dead, pm_dead, pm_dead, pm_dead]) (by decide +kernel) (Nat.le_of_ble_eq_true rfl) rfl ?_
  refine CL_170_20 hX hv (hR3) (fun A3 y4 y5 u6 u7 u8 u9 hIy10 hFA3 gy5 => ?_) 8 A2 0 0 (pm_dead) (pm_dead) (pm_dead) (pm_dead) hIA2 (fun k _ _ => rfl) (by decide +kernel) (by decide +kernel)
  refine pe_iload_n (j := 2) (by decide +kernel) rfl ?_
  exact pe_iret (by decide +kernel) rfl rfl ⟨A3, y4, rfl, hIy10, (fun k n75 n76 => ((hFA3 k n75 n76)).trans ((upa_fr eA2 n76).trans (upa_fr eA1 n75))), ⟨trivial, trivial⟩⟩
set_option maxRecDepth 100000 in
set_option maxHeartbeats 8000000 in
theorem CL_171_25 {X : pm_X} {d : Nat} {wr : pm_W} {Q : pm_R → Prop} {f : Nat → Int32} {A0 : Nat → List Int32} {R : Nat → Value} {x1 x2 x3 : Int32} {v : Nat} (hX : XO X) (hv : VV v) (hR3 : R 3 = .ref v) (gx3 : (0 ≤ x3.toInt ∧ x3.toInt ≤ 8)) (k_80_0 : ∀ (A' : Nat → List Int32) (y4 : Int32), CI f A' R → (∀ k : Nat, k ≠ 80 → A' k = A0 k) → (0 ≤ y4.toInt ∧ y4.toInt ≤ 9) → pmE pg X pg_tyl pg_cl (d + 3) 171 80 [.ref 68, .int x1, .int x2, .int x3, .int y4] [] (cd f A' R wr) Q) : ∀ (m : Nat) (A : Nat → List Int32) (x4 : Int32), CI f A R → (∀ k : Nat, k ≠ 80 → A k = A0 k) → (0 ≤ x4.toInt ∧ x4.toInt ≤ 9) → 9 - x4.toInt < (m : Int) → pmE pg X pg_tyl pg_cl (d + 3) 171 25 [.ref 68, .int x1, .int x2, .int x3, .int x4] [] (cd f A R wr) Q := by
  have bv := VV_b hv
  intro m
  induction m with
  | zero =>
    intro A x4 hI hF gx4 hm
    exfalso
    have l0 := zi_lo x4
    have u0 := zi_hi x4
    omega
  | succ m ih =>
    intro A x4 hI hF gx4 hm
    refine pe_iload (j := 4) (by decide +kernel) rfl ?_
    refine pe_aload_n (j := 0) (by decide +kernel) rfl ?_
    refine pe_get (j := 12) (ci := 10) (n := 0) (by decide +kernel) (by decide +kernel) cd_o68 rfl ?_
    refine pe_topV (v := .ref v) (hR3) ?_
    refine pe_get (j := 49) (ci := 9) (n := 0) (by decide +kernel) (by decide +kernel) (cv_o hv) rfl ?_
    have hr_f_16v := cv_people hv hI
    refine pz_icmp_ge (off := 46) (t := 80) (by decide +kernel) (by decide) rfl rfl rfl (fun h1 => ?_) (fun h1 => ?_)
    · skip
      exact k_80_0 A x4 hI (fun k n80 => (hF k n80)) (by omega)
    · skip
      refine pe_aload_n (j := 0) (by decide +kernel) rfl ?_
      refine pe_get (j := 38) (ci := 10) (n := 6) (by decide +kernel) (by decide +kernel) cd_o68 rfl ?_
      refine pe_iload_n (j := 3) (by decide +kernel) rfl ?_
      refine pe_iload (j := 4) (by decide +kernel) rfl ?_
      refine pe_iconstv (n := 0) (v := 0) (by decide +kernel) (by decide +kernel) ?_
      refine pe_aload_n (j := 0) (by decide +kernel) rfl ?_
      refine pe_get (j := 18) (ci := 10) (n := 1) (by decide +kernel) (by decide +kernel) cd_o68 rfl ?_
      refine pe_iload_n (j := 3) (by decide +kernel) rfl ?_
      refine pe_iload (j := 4) (by decide +kernel) rfl ?_
      refine pi_S (j := 53) (mj := 52) (by decide +kernel) (by decide +kernel) rfl ?_
      show pmE pg X pg_tyl pg_cl (d + 2) 52 0 [.int x3, .int x4] [] (cd f A R wr) _
      refine pe_iload_n (j := 0) (by decide +kernel) rfl ?_
      refine pe_bipushv (n := 9) (v := 9) (by decide +kernel) (by decide +kernel) ?_
      refine pz_mul (by decide +kernel) rfl kz_9 (by omega) (by omega) (fun z2 hz2 => ?_)
      refine pe_iload_n (j := 1) (by decide +kernel) rfl ?_
      refine pz_add (by decide +kernel) hz2 rfl (by omega) (by omega) (fun z3 hz3 => ?_)
      clear hz2
      refine pe_iret (by decide +kernel) rfl rfl ⟨rfl, rfl, ?_⟩
      show pmE pg X pg_tyl pg_cl (d + 3) 171 55 [.ref 68, .int x1, .int x2, .int x3, .int x4] [.int z3, .ref 74, .int 0, .int x4, .int x3, .ref 79] (cd f A R wr) _
      refine pz_iald (by decide +kernel) cd_a74 (cl_74 hI) hz3 (by omega) (by omega) (fun v4 ev4 => ?_)
      rw [show A 74 = A0 74 from (hF 74 (by decide))] at ev4
      clear hz3
      refine pe_aload_n (j := 0) (by decide +kernel) rfl ?_
      refine pe_get (j := 22) (ci := 10) (n := 2) (by decide +kernel) (by decide +kernel) cd_o68 rfl ?_
      refine pe_iload_n (j := 3) (by decide +kernel) rfl ?_
      refine pe_iload (j := 4) (by decide +kernel) rfl ?_
      refine pi_S (j := 53) (mj := 52) (by decide +kernel) (by decide +kernel) rfl ?_
      show pmE pg X pg_tyl pg_cl (d + 2) 52 0 [.int x3, .int x4] [] (cd f A R wr) _
      refine pe_iload_n (j := 0) (by decide +kernel) rfl ?_
      refine pe_bipushv (n := 9) (v := 9) (by decide +kernel) (by decide +kernel) ?_
      refine pz_mul (by decide +kernel) rfl kz_9 (by omega) (by omega) (fun z5 hz5 => ?_)
      refine pe_iload_n (j := 1) (by decide +kernel) rfl ?_
      refine pz_add (by decide +kernel) hz5 rfl (by omega) (by omega) (fun z6 hz6 => ?_)
      clear hz5
      refine pe_iret (by decide +kernel) rfl rfl ⟨rfl, rfl, ?_⟩
      show pmE pg X pg_tyl pg_cl (d + 3) 171 66 [.ref 68, .int x1, .int x2, .int x3, .int x4] [.int z6, .ref 75, .int v4, .int 0, .int x4, .int x3, .ref 79] (cd f A R wr) _
      refine pz_iald (by decide +kernel) cd_a75 (cl_75 hI) hz6 (by omega) (by omega) (fun v7 ev7 => ?_)
      rw [show A 75 = A0 75 from (hF 75 (by decide))] at ev7
      clear hz6
      refine pw_sub (by decide +kernel) (fun z8 => ?_)
      have hl10 := kz_0
      have lw11 := zi_lo z8
      have uw11 := zi_hi z8
      refine pz_max (j := 92) (c := 2147483647) (by decide +kernel) (by decide +kernel) (Nat.le_of_ble_eq_true rfl) kz_0 rfl (by omega) (by omega) (fun z9 hz9 => ?_)
      refine pi_V (j := 72) (mj := 163) (by decide +kernel) (cll_V (args := [.int z9, .int x4, .int x3]) (n := 3) (by decide +kernel) rfl rfl cd_o79 (by decide +kernel) (Nat.le_of_ble_eq_true rfl) (Nat.le_of_ble_eq_true rfl)) ?_
      show pmE pg X pg_tyl pg_cl (d + 2) 163 0 [.ref 79, .int x3, .int x4, .int z9] [] (cd f A R wr) _
      refine pe_aload_n (j := 0) (by decide +kernel) rfl ?_
      refine pe_get (j := 11) (ci := 0) (n := 0) (by decide +kernel) (by decide +kernel) cd_o79 rfl ?_
      refine pe_iload_n (j := 1) (by decide +kernel) rfl ?_
      refine pe_bipushv (n := 12) (v := 12) (by decide +kernel) (by decide +kernel) ?_
      refine pz_mul (by decide +kernel) rfl kz_12 (by omega) (by omega) (fun z12 hz12 => ?_)
      refine pe_iload_n (j := 2) (by decide +kernel) rfl ?_
      refine pz_add (by decide +kernel) hz12 rfl (by omega) (by omega) (fun z13 hz13 => ?_)
      clear hz12
      refine pe_iload_n (j := 3) (by decide +kernel) rfl ?_
      refine cz_st80 (by decide +kernel) hI hz13 (by omega) (by omega) (fun A14 eA14 hIA14 => ?_)
      refine pe_vret (by decide +kernel) rfl ⟨rfl, rfl, ?_⟩
      show pmE pg X pg_tyl pg_cl (d + 3) 171 74 [.ref 68, .int x1, .int x2, .int x3, .int x4] [] (cd f A14 R wr) _
      refine pz_iinc (j := 4) (n := 1) (by decide +kernel) rfl rfl (by decide +kernel) (by omega) (by omega) (fun z15 hz15 => ?_)
      show pmE pg X pg_tyl pg_cl (d + 3) 171 77 [.ref 68, .int x1, .int x2, .int x3, .int z15] [] (cd f A14 R wr) _
      refine pe_goto (off := (-52)) (t := 25) (by decide +kernel) (by decide) rfl ?_
      exact ih A14 z15 hIA14 (fun k n80 => (upa_fr eA14 n80).trans ((hF k n80))) (by omega) (by omega)
set_option maxRecDepth 100000 in
set_option maxHeartbeats 8000000 in
theorem CL_171_11 {X : pm_X} {d : Nat} {wr : pm_W} {Q : pm_R → Prop} {f : Nat → Int32} {A0 : Nat → List Int32} {R : Nat → Value} {x1 : Int32} {v : Nat} (hX : XO X) (hv : VV v) (hR3 : R 3 = .ref v) (k_162_0 : ∀ (A' : Nat → List Int32) (y2 : Int32) (y3 : Int32) (v4 : Value), CI f A' R → (∀ k : Nat, k ≠ 80 → A' k = A0 k) → (0 ≤ y3.toInt ∧ y3.toInt ≤ 9) → pmE pg X pg_tyl pg_cl (d + 3) 171 162 [.ref 68, .int x1, .int y2, .int y3, v4] [] (cd f A' R wr) Q) : ∀ (m : Nat) (A : Nat → List Int32) (x2 : Int32) (x3 : Int32) (u4 : Value), CI f A R → (∀ k : Nat, k ≠ 80 → A k = A0 k) → (0 ≤ x3.toInt ∧ x3.toInt ≤ 9) → 9 - x3.toInt < (m : Int) → pmE pg X pg_tyl pg_cl (d + 3) 171 11 [.ref 68, .int x1, .int x2, .int x3, u4] [] (cd f A R wr) Q := by
  have bv := VV_b hv
  intro m
  induction m with
  | zero =>
    intro A x2 x3 u4 hI hF gx3 hm
    exfalso
    have l0 := zi_lo x3
    have u0 := zi_hi x3
    omega
  | succ m ih =>
    intro A x2 x3 u4 hI hF gx3 hm
    refine pe_iload_n (j := 3) (by decide +kernel) rfl ?_
    refine pe_aload_n (j := 0) (by decide +kernel) rfl ?_
    refine pe_get (j := 12) (ci := 10) (n := 0) (by decide +kernel) (by decide +kernel) cd_o68 rfl ?_
    refine pe_topV (v := .ref v) (hR3) ?_
    refine pe_get (j := 49) (ci := 9) (n := 0) (by decide +kernel) (by decide +kernel) (cv_o hv) rfl ?_
    have hr_f_16v := cv_people hv hI
    refine pz_icmp_ge (off := 143) (t := 162) (by decide +kernel) (by decide) rfl rfl rfl (fun h1 => ?_) (fun h1 => ?_)
    · skip
      exact k_162_0 A x2 x3 (u4) hI (fun k n80 => (hF k n80)) (by omega)
    · skip
      refine pe_iconstv (n := 0) (v := 0) (by decide +kernel) (by decide +kernel) ?_
      refine pe_istore (j := 4) (ls' := [.ref 68, .int x1, .int x2, .int x3, .int 0]) (by decide +kernel) (Nat.le_of_ble_eq_true rfl) rfl ?_
      refine CL_171_25 hX hv (hR3) (by omega) (fun A2 y3 hIy4 hFA2 gy3 => ?_) 10 A 0 hI (fun k _ => rfl) (by decide +kernel) (by decide +kernel)
      refine pe_aload_n (j := 0) (by decide +kernel) rfl ?_
      refine pe_get (j := 38) (ci := 10) (n := 6) (by decide +kernel) (by decide +kernel) cd_o68 rfl ?_
      refine pe_iload_n (j := 3) (by decide +kernel) rfl ?_
      refine pe_bipushv (n := 9) (v := 9) (by decide +kernel) (by decide +kernel) ?_
      refine pe_iload_n (j := 1) (by decide +kernel) rfl ?_
      refine pi_V (j := 72) (mj := 163) (by decide +kernel) (cll_V (args := [.int x1, .int 9, .int x3]) (n := 3) (by decide +kernel) rfl rfl cd_o79 (by decide +kernel) (Nat.le_of_ble_eq_true rfl) (Nat.le_of_ble_eq_true rfl)) ?_
      show pmE pg X pg_tyl pg_cl (d + 2) 163 0 [.ref 79, .int x3, .int 9, .int x1] [] (cd f A2 R wr) _
      refine pe_aload_n (j := 0) (by decide +kernel) rfl ?_
      refine pe_get (j := 11) (ci := 0) (n := 0) (by decide +kernel) (by decide +kernel) cd_o79 rfl ?_
      refine pe_iload_n (j := 1) (by decide +kernel) rfl ?_
      refine pe_bipushv (n := 12) (v := 12) (by decide +kernel) (by decide +kernel) ?_
      refine pz_mul (by decide +kernel) rfl kz_12 (by omega) (by omega) (fun z5 hz5 => ?_)
      refine pe_iload_n (j := 2) (by decide +kernel) rfl ?_
      refine pz_add (by decide +kernel) hz5 kz_9 (by omega) (by omega) (fun z6 hz6 => ?_)
      clear hz5
      refine pe_iload_n (j := 3) (by decide +kernel) rfl ?_
      refine cz_st80 (by decide +kernel) hIy4 hz6 (by omega) (by omega) (fun A7 eA7 hIA7 => ?_)
      refine pe_vret (by decide +kernel) rfl ⟨rfl, rfl, ?_⟩
      show pmE pg X pg_tyl pg_cl (d + 3) 171 91 [.ref 68, .int x1, .int x2, .int x3, .int y3] [] (cd f A7 R wr) _
      refine pe_aload_n (j := 0) (by decide +kernel) rfl ?_
      refine pe_get (j := 38) (ci := 10) (n := 6) (by decide +kernel) (by decide +kernel) cd_o68 rfl ?_
      refine pe_bipushv (n := 9) (v := 9) (by decide +kernel) (by decide +kernel) ?_
      refine pe_iload_n (j := 3) (by decide +kernel) rfl ?_
      refine pe_iload_n (j := 1) (by decide +kernel) rfl ?_
      refine pi_V (j := 72) (mj := 163) (by decide +kernel) (cll_V (args := [.int x1, .int x3, .int 9]) (n := 3) (by decide +kernel) rfl rfl cd_o79 (by decide +kernel) (Nat.le_of_ble_eq_true rfl) (Nat.le_of_ble_eq_true rfl)) ?_
      show pmE pg X pg_tyl pg_cl (d + 2) 163 0 [.ref 79, .int 9, .int x3, .int x1] [] (cd f A7 R wr) _
      refine pe_aload_n (j := 0) (by decide +kernel) rfl ?_
      refine pe_get (j := 11) (ci := 0) (n := 0) (by decide +kernel) (by decide +kernel) cd_o79 rfl ?_
      refine pe_iload_n (j := 1) (by decide +kernel) rfl ?_
      refine pe_bipushv (n := 12) (v := 12) (by decide +kernel) (by decide +kernel) ?_
      refine pe_imul (by decide +kernel) ?_
      refine pe_top (v := 108) (by decide +kernel) ?_
      refine pe_iload_n (j := 2) (by decide +kernel) rfl ?_
      refine pz_add (by decide +kernel) kz_108 rfl (by omega) (by omega) (fun z9 hz9 => ?_)
      refine pe_iload_n (j := 3) (by decide +kernel) rfl ?_
      refine cz_st80 (by decide +kernel) hIA7 hz9 (by omega) (by omega) (fun A10 eA10 hIA10 => ?_)
      refine pe_vret (by decide +kernel) rfl ⟨rfl, rfl, ?_⟩
      show pmE pg X pg_tyl pg_cl (d + 3) 171 102 [.ref 68, .int x1, .int x2, .int x3, .int y3] [] (cd f A10 R wr) _
      refine pe_aload_n (j := 0) (by decide +kernel) rfl ?_
      refine pe_get (j := 38) (ci := 10) (n := 6) (by decide +kernel) (by decide +kernel) cd_o68 rfl ?_
      refine pe_bipushv (n := 10) (v := 10) (by decide +kernel) (by decide +kernel) ?_
      refine pe_iload_n (j := 3) (by decide +kernel) rfl ?_
      refine pe_iconstv (n := 0) (v := 0) (by decide +kernel) (by decide +kernel) ?_
      refine pe_aload_n (j := 0) (by decide +kernel) rfl ?_
      refine pe_get (j := 25) (ci := 10) (n := 3) (by decide +kernel) (by decide +kernel) cd_o68 rfl ?_
      refine pe_iload_n (j := 3) (by decide +kernel) rfl ?_
      refine pz_iald (by decide +kernel) cd_a76 (cl_76 hIA10) rfl (by omega) (by omega) (fun v11 ev11 => ?_)
      rw [show A10 76 = A0 76 from (upa_fr eA10 (by decide)).trans ((upa_fr eA7 (by decide)).trans (((hFA2 76 (by decide))).trans ((hF 76 (by decide)))))] at ev11
      have hl13 := kz_0
      have lw14 := zi_lo v11
      have uw14 := zi_hi v11
      refine pz_max (j := 92) (c := 2147483647) (by decide +kernel) (by decide +kernel) (Nat.le_of_ble_eq_true rfl) kz_0 rfl (by omega) (by omega) (fun z12 hz12 => ?_)
      refine pi_V (j := 72) (mj := 163) (by decide +kernel) (cll_V (args := [.int z12, .int x3, .int 10]) (n := 3) (by decide +kernel) rfl rfl cd_o79 (by decide +kernel) (Nat.le_of_ble_eq_true rfl) (Nat.le_of_ble_eq_true rfl)) ?_
      show pmE pg X pg_tyl pg_cl (d + 2) 163 0 [.ref 79, .int 10, .int x3, .int z12] [] (cd f A10 R wr) _
      refine pe_aload_n (j := 0) (by decide +kernel) rfl ?_
      refine pe_get (j := 11) (ci := 0) (n := 0) (by decide +kernel) (by decide +kernel) cd_o79 rfl ?_
      refine pe_iload_n (j := 1) (by decide +kernel) rfl ?_
      refine pe_bipushv (n := 12) (v := 12) (by decide +kernel) (by decide +kernel) ?_
      refine pe_imul (by decide +kernel) ?_
      refine pe_top (v := 120) (by decide +kernel) ?_
      refine pe_iload_n (j := 2) (by decide +kernel) rfl ?_
      refine pz_add (by decide +kernel) kz_120 rfl (by omega) (by omega) (fun z16 hz16 => ?_)
      refine pe_iload_n (j := 3) (by decide +kernel) rfl ?_
      refine cz_st80 (by decide +kernel) hIA10 hz16 (by omega) (by omega) (fun A17 eA17 hIA17 => ?_)
      refine pe_vret (by decide +kernel) rfl ⟨rfl, rfl, ?_⟩
      show pmE pg X pg_tyl pg_cl (d + 3) 171 122 [.ref 68, .int x1, .int x2, .int x3, .int y3] [] (cd f A17 R wr) _
      refine pe_aload_n (j := 0) (by decide +kernel) rfl ?_
      refine pe_get (j := 38) (ci := 10) (n := 6) (by decide +kernel) (by decide +kernel) cd_o68 rfl ?_
      refine pe_iload_n (j := 3) (by decide +kernel) rfl ?_
      refine pe_bipushv (n := 11) (v := 11) (by decide +kernel) (by decide +kernel) ?_
      refine pe_iconstv (n := 0) (v := 0) (by decide +kernel) (by decide +kernel) ?_
      refine pe_aload_n (j := 0) (by decide +kernel) rfl ?_
      refine pe_get (j := 25) (ci := 10) (n := 3) (by decide +kernel) (by decide +kernel) cd_o68 rfl ?_
      refine pe_iload_n (j := 3) (by decide +kernel) rfl ?_
      refine pz_iald (by decide +kernel) cd_a76 (cl_76 hIA17) rfl (by omega) (by omega) (fun v18 ev18 => ?_)
      rw [show A17 76 = A0 76 from (upa_fr eA17 (by decide)).trans ((upa_fr eA10 (by decide)).trans ((upa_fr eA7 (by decide)).trans (((hFA2 76 (by decide))).trans ((hF 76 (by decide))))))] at ev18
      rw [ev18.trans ev11.symm]
      clear ev18 v18
      refine pw_neg (by decide +kernel) (fun z19 => ?_)
      have hl21 := kz_0
      have lw22 := zi_lo z19
      have uw22 := zi_hi z19
      refine pz_max (j := 92) (c := 2147483647) (by decide +kernel) (by decide +kernel) (Nat.le_of_ble_eq_true rfl) kz_0 rfl (by omega) (by omega) (fun z20 hz20 => ?_)
      refine pi_V (j := 72) (mj := 163) (by decide +kernel) (cll_V (args := [.int z20, .int 11, .int x3]) (n := 3) (by decide +kernel) rfl rfl cd_o79 (by decide +kernel) (Nat.le_of_ble_eq_true rfl) (Nat.le_of_ble_eq_true rfl)) ?_
      show pmE pg X pg_tyl pg_cl (d + 2) 163 0 [.ref 79, .int x3, .int 11, .int z20] [] (cd f A17 R wr) _
      refine pe_aload_n (j := 0) (by decide +kernel) rfl ?_
      refine pe_get (j := 11) (ci := 0) (n := 0) (by decide +kernel) (by decide +kernel) cd_o79 rfl ?_
      refine pe_iload_n (j := 1) (by decide +kernel) rfl ?_
      refine pe_bipushv (n := 12) (v := 12) (by decide +kernel) (by decide +kernel) ?_
      refine pz_mul (by decide +kernel) rfl kz_12 (by omega) (by omega) (fun z23 hz23 => ?_)
      refine pe_iload_n (j := 2) (by decide +kernel) rfl ?_
      refine pz_add (by decide +kernel) hz23 kz_11 (by omega) (by omega) (fun z24 hz24 => ?_)
      clear hz23
      refine pe_iload_n (j := 3) (by decide +kernel) rfl ?_
      refine cz_st80 (by decide +kernel) hIA17 hz24 (by omega) (by omega) (fun A25 eA25 hIA25 => ?_)
      refine pe_vret (by decide +kernel) rfl ⟨rfl, rfl, ?_⟩
      show pmE pg X pg_tyl pg_cl (d + 3) 171 143 [.ref 68, .int x1, .int x2, .int x3, .int y3] [] (cd f A25 R wr) _
      refine pe_iload_n (j := 2) (by decide +kernel) rfl ?_
      refine pe_iconstv (n := 0) (v := 0) (by decide +kernel) (by decide +kernel) ?_
      refine pe_aload_n (j := 0) (by decide +kernel) rfl ?_
      refine pe_get (j := 25) (ci := 10) (n := 3) (by decide +kernel) (by decide +kernel) cd_o68 rfl ?_
      refine pe_iload_n (j := 3) (by decide +kernel) rfl ?_
      refine pz_iald (by decide +kernel) cd_a76 (cl_76 hIA25) rfl (by omega) (by omega) (fun v26 ev26 => ?_)
      rw [show A25 76 = A0 76 from (upa_fr eA25 (by decide)).trans ((upa_fr eA17 (by decide)).trans ((upa_fr eA10 (by decide)).trans ((upa_fr eA7 (by decide)).trans (((hFA2 76 (by decide))).trans ((hF 76 (by decide)))))))] at ev26
      rw [ev26.trans ev11.symm]
      clear ev26 v26
      have hl28 := kz_0
      refine pz_max (j := 92) (c := 2147483647) (by decide +kernel) (by decide +kernel) (Nat.le_of_ble_eq_true rfl) kz_0 rfl (by omega) (by omega) (fun z27 hz27 => ?_)
      refine pw_add (by decide +kernel) (fun z29 => ?_)
      refine pe_istore_n (j := 2) (ls' := [.ref 68, .int x1, .int z29, .int x3, .int y3]) (by decide +kernel) (Nat.le_of_ble_eq_true rfl) rfl ?_
      refine pz_iinc (j := 3) (n := 1) (by decide +kernel) rfl rfl (by decide +kernel) (by omega) (by omega) (fun z30 hz30 => ?_)
      show pmE pg X pg_tyl pg_cl (d + 3) 171 159 [.ref 68, .int x1, .int z29, .int z30, .int y3] [] (cd f A25 R wr) _
      refine pe_goto (off := (-148)) (t := 11) (by decide +kernel) (by decide) rfl ?_
      exact ih A25 z29 z30 (.int y3) hIA25 (fun k n80 => (upa_fr eA25 n80).trans ((upa_fr eA17 n80).trans ((upa_fr eA10 n80).trans ((upa_fr eA7 n80).trans (((hFA2 k n80)).trans ((hF k n80))))))) (by omega) (by omega)
set_option maxRecDepth 100000 in
set_option maxHeartbeats 8000000 in
theorem CM_171 {X : pm_X} {d : Nat} {wr : pm_W} {f : Nat → Int32} {A : Nat → List Int32} {R : Nat → Value} {x1 : Int32} {v : Nat} (hX : XO X) (hI : CI f A R) (hv : VV v) (hR3 : R 3 = .ref v) : pmE pg X pg_tyl pg_cl (d + 3) 171 0 (pm_ent (pm_max pg 171) [.ref 68, .int x1]) [] (cd f A R wr) (fun q => ∃ (A' : Nat → List Int32) (r : Int32), q = (some (.int r), cd f A' R wr, 0, 0) ∧ CI f A' R ∧ (∀ k : Nat, k ≠ 80 → k ≠ 81 → k ≠ 82 → A' k = A k) ∧ ((True ∧ True))) := by
  have bv := VV_b hv
  show pmE pg X pg_tyl pg_cl (d + 3) 171 0 [.ref 68, .int x1, pm_dead, pm_dead, pm_dead] [] (cd f A R wr) _
  refine pe_aload_n (j := 0) (by decide +kernel) rfl ?_
  refine pe_get (j := 38) (ci := 10) (n := 6) (by decide +kernel) (by decide +kernel) cd_o68 rfl ?_
  refine pi_V (j := 69) (mj := 162) (by decide +kernel) (cll_V (args := []) (n := 0) (by decide +kernel) rfl rfl cd_o79 (by decide +kernel) (Nat.le_of_ble_eq_true rfl) (Nat.le_of_ble_eq_true rfl)) ?_
  show pmE pg X pg_tyl pg_cl (d + 2) 162 0 [.ref 79] [] (cd f A R wr) _
  refine pe_aload_n (j := 0) (by decide +kernel) rfl ?_
  refine pe_get (j := 11) (ci := 0) (n := 0) (by decide +kernel) (by decide +kernel) cd_o79 rfl ?_
  refine pe_iconstv (n := 0) (v := 0) (by decide +kernel) (by decide +kernel) ?_
  refine cz_fill (j := 21) (k := 80) (n := 144) (by decide +kernel) (by decide +kernel) rfl cd_a80 (fun _ => cd_s80) hI (cl_80 hI) (by decide +kernel) (ct_no (by decide +kernel)) (fun A1 eA1 hIA1 => ?_)
  refine pe_vret (by decide +kernel) rfl ⟨rfl, rfl, ?_⟩
  show pmE pg X pg_tyl pg_cl (d + 3) 171 7 [.ref 68, .int x1, pm_dead, pm_dead, pm_dead] [] (cd f A1 R wr) _
  refine pe_iconstv (n := 0) (v := 0) (by decide +kernel) (by decide +kernel) ?_
  refine pe_istore_n (j := 2) (ls' := [.ref 68, .int x1, .int 0, pm_dead, pm_dead]) (by decide +kernel) (Nat.le_of_ble_eq_true rfl) rfl ?_
  refine pe_iconstv (n := 0) (v := 0) (by decide +kernel) (by decide +kernel) ?_
  refine pe_istore_n (j := 3) (ls' := [.ref 68, .int x1, .int 0, .int 0, pm_dead]) (by decide +kernel) (Nat.le_of_ble_eq_true rfl) rfl ?_
  refine CL_171_11 hX hv (hR3) (fun A2 y3 y4 u5 hIy6 hFA2 gy4 => ?_) 10 A1 0 0 (pm_dead) hIA1 (fun k _ => rfl) (by decide +kernel) (by decide +kernel)
  refine pe_iload_n (j := 2) (by decide +kernel) rfl ?_
  refine pe_aload_n (j := 0) (by decide +kernel) rfl ?_
  refine pe_get (j := 38) (ci := 10) (n := 6) (by decide +kernel) (by decide +kernel) cd_o68 rfl ?_
  refine pe_bipushv (n := 10) (v := 10) (by decide +kernel) (by decide +kernel) ?_
  refine pe_bipushv (n := 11) (v := 11) (by decide +kernel) (by decide +kernel) ?_
  refine pz_callV (j := 76) (mj := 164) (by decide +kernel) (cll_V (args := [.int 11, .int 10]) (n := 2) (by decide +kernel) rfl rfl cd_o79 (by decide +kernel) (Nat.le_of_ble_eq_true rfl) (Nat.le_of_ble_eq_true rfl)) (CM_164 hX hIy6 (by decide +kernel) (by decide +kernel)) (fun q7a q7b q7c q7d hqq7 => ?_)
  obtain ⟨A8, rq7, eq7, hIq7, hFq7, kq7⟩ := hqq7
  cases eq7
  refine ⟨rfl, rfl, ?_⟩
  show pmE pg X pg_tyl pg_cl (d + 3) 171 174 [.ref 68, .int x1, .int y3, .int y4, u5] [.int rq7, .int y3] (cd f A8 R wr) _
  refine pw_sub (by decide +kernel) (fun z9 => ?_)
  exact pe_iret (by decide +kernel) rfl rfl ⟨A8, z9, rfl, hIq7, (fun k n80 n81 n82 => ((hFq7 k n80 n81 n82)).trans (((hFA2 k n80)).trans (upa_fr eA1 n80))), ⟨trivial, trivial⟩⟩
