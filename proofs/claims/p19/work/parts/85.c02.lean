set_option maxRecDepth 100000 in
set_option maxHeartbeats 8000000 in
theorem CL_105_1_4 {X : pm_X} {d : Nat} {wr : pm_W} {Q : pm_R → Prop} {f : Nat → Int32} {A : Nat → List Int32} {R : Nat → Value} (hX : XO X) (hI : CI f A R) (k_25_0 : ∀ (y1 : Int32) (y2 : Int32), (81 ≤ y2.toInt ∧ y2.toInt ≤ 81) → pmE pg X pg_tyl pg_cl (d) 105 25 [.ref 46, .int y1, .int y2] [] (cd f A R wr) Q) : ∀ (m : Nat) (x1 : Int32) (x2 : Int32), (0 ≤ x2.toInt ∧ x2.toInt ≤ 81) → 81 - x2.toInt < (m : Int) → pmE pg X pg_tyl pg_cl (d) 105 4 [.ref 46, .int x1, .int x2] [] (cd f A R wr) Q := by
  intro m
  induction m with
  | zero =>
    intro x1 x2 gx2 hm
    exfalso
    have l0 := zi_lo x2
    have u0 := zi_hi x2
    omega
  | succ m ih =>
    intro x1 x2 gx2 hm
    refine pe_iload_n (j := 2) (by decide +kernel) rfl ?_
    refine pe_bipushv (n := 81) (v := 81) (by decide +kernel) (by decide +kernel) ?_
    refine pz_icmp_ge (off := 18) (t := 25) (by decide +kernel) (by decide) rfl rfl kz_81 (fun h1 => ?_) (fun h1 => ?_)
    · skip
      exact k_25_0 x1 x2 (by omega)
    · skip
      refine pe_iload_n (j := 1) (by decide +kernel) rfl ?_
      refine pe_aload_n (j := 0) (by decide +kernel) rfl ?_
      refine pe_get (j := 18) (ci := 7) (n := 3) (by decide +kernel) (by decide +kernel) cd_o46 rfl ?_
      refine pe_iload_n (j := 2) (by decide +kernel) rfl ?_
      refine pz_iald (by decide +kernel) cd_a52 (cl_52 hI) rfl (by omega) (by omega) (fun v2 ev2 => ?_)
      refine pw_add (by decide +kernel) (fun z3 => ?_)
      refine pe_istore_n (j := 1) (ls' := [.ref 46, .int z3, .int x2]) (by decide +kernel) (Nat.le_of_ble_eq_true rfl) rfl ?_
      refine pz_iinc (j := 2) (n := 1) (by decide +kernel) rfl rfl (by decide +kernel) (by omega) (by omega) (fun z4 hz4 => ?_)
      show pmE pg X pg_tyl pg_cl (d) 105 22 [.ref 46, .int z3, .int z4] [] (cd f A R wr) _
      refine pe_goto (off := (-18)) (t := 4) (by decide +kernel) (by decide) rfl ?_
      exact ih z3 z4 (by omega) (by omega)
set_option maxRecDepth 100000 in
set_option maxHeartbeats 8000000 in
theorem CM_105_1 {X : pm_X} {d : Nat} {wr : pm_W} {f : Nat → Int32} {A : Nat → List Int32} {R : Nat → Value} (hX : XO X) (hI : CI f A R) : pmE pg X pg_tyl pg_cl (d) 105 0 (pm_ent (pm_max pg 105) [.ref 46]) [] (cd f A R wr) (fun q => ∃ (r : Int32), q = (some (.int r), cd f A R wr, 0, 0) ∧ ((True ∧ True))) := by
  show pmE pg X pg_tyl pg_cl (d) 105 0 [.ref 46, pm_dead, pm_dead] [] (cd f A R wr) _
  refine pe_iconstv (n := 0) (v := 0) (by decide +kernel) (by decide +kernel) ?_
  refine pe_istore_n (j := 1) (ls' := [.ref 46, .int 0, pm_dead]) (by decide +kernel) (Nat.le_of_ble_eq_true rfl) rfl ?_
  refine pe_iconstv (n := 0) (v := 0) (by decide +kernel) (by decide +kernel) ?_
  refine pe_istore_n (j := 2) (ls' := [.ref 46, .int 0, .int 0]) (by decide +kernel) (Nat.le_of_ble_eq_true rfl) rfl ?_
  refine CL_105_1_4 hX hI (fun y1 y2 gy2 => ?_) 82 0 0 (by decide +kernel) (by decide +kernel)
  refine pe_iload_n (j := 1) (by decide +kernel) rfl ?_
  exact pe_iret (by decide +kernel) rfl rfl ⟨y1, rfl, ⟨trivial, trivial⟩⟩
set_option maxRecDepth 100000 in
set_option maxHeartbeats 8000000 in
theorem CM_82 {X : pm_X} {d : Nat} {wr : pm_W} {f : Nat → Int32} {A : Nat → List Int32} {R : Nat → Value} {x1 : Int32} (hX : XO X) (hI : CI f A R) : pmE pg X pg_tyl pg_cl (d + 2) 82 0 (pm_ent (pm_max pg 82) [.ref 33, .int x1]) [] (cd f A R wr) (fun q => ∃ (A' : Nat → List Int32) (r : Int32), q = (some (.int r), cd f A' R wr, 0, 0) ∧ CI f A' R ∧ (∀ k : Nat, k ≠ 39 → k ≠ 40 → A' k = A k) ∧ ((r = 0 ∧ True) ∨ (r = 1 ∧ (0 ≤ x1.toInt ∧ x1.toInt ≤ 36)))) := by
  show pmE pg X pg_tyl pg_cl (d + 2) 82 0 [.ref 33, .int x1] [] (cd f A R wr) _
  refine pe_iload_n (j := 1) (by decide +kernel) rfl ?_
  have lw2 := zi_lo x1
  have uw2 := zi_hi x1
  refine pz_if_lt (off := 19) (t := 20) (by decide +kernel) (by decide) rfl rfl (fun h1 => ?_) (fun h1 => ?_)
  · skip
    refine pe_iconstv (n := 0) (v := 0) (by decide +kernel) (by decide +kernel) ?_
    exact pe_iret (by decide +kernel) rfl rfl ⟨A, 0, rfl, hI, (fun k n39 n40 => rfl), Or.inl ⟨rfl, trivial⟩⟩
  · skip
    refine pe_iload_n (j := 1) (by decide +kernel) rfl ?_
    refine pe_aload_n (j := 0) (by decide +kernel) rfl ?_
    refine pe_get (j := 32) (ci := 7) (n := 2) (by decide +kernel) (by decide +kernel) cd_o33 rfl ?_
    have hr_f_530 := cf_530 hI
    refine pz_icmp_ge (off := 11) (t := 20) (by decide +kernel) (by decide) rfl rfl rfl (fun h3 => ?_) (fun h3 => ?_)
    · skip
      refine pe_iconstv (n := 0) (v := 0) (by decide +kernel) (by decide +kernel) ?_
      exact pe_iret (by decide +kernel) rfl rfl ⟨A, 0, rfl, hI, (fun k n39 n40 => rfl), Or.inl ⟨rfl, trivial⟩⟩
    · skip
      refine pe_aload_n (j := 0) (by decide +kernel) rfl ?_
      refine pe_iload_n (j := 1) (by decide +kernel) rfl ?_
      refine pi_V (j := 103) (mj := 83) (by decide +kernel) (cll_V (args := [.int x1]) (n := 1) (by decide +kernel) rfl rfl cd_o33 (by decide +kernel) (Nat.le_of_ble_eq_true rfl) (Nat.le_of_ble_eq_true rfl)) ?_
      show pmE pg X pg_tyl pg_cl (d + 1) 83 0 [.ref 33, .int x1] [] (cd f A R wr) _
      refine pe_aload_n (j := 0) (by decide +kernel) rfl ?_
      refine pe_iload_n (j := 1) (by decide +kernel) rfl ?_
      refine pe_iconstv (n := 3) (v := 3) (by decide +kernel) (by decide +kernel) ?_
      refine pi_V (j := 100) (mj := 84) (by decide +kernel) (cll_V (args := [.int 3, .int x1]) (n := 2) (by decide +kernel) rfl rfl cd_o33 (by decide +kernel) (Nat.le_of_ble_eq_true rfl) (Nat.le_of_ble_eq_true rfl)) ?_
      show pmE pg X pg_tyl pg_cl (d) 84 0 [.ref 33, .int x1, .int 3] [] (cd f A R wr) _
      refine pe_aload_n (j := 0) (by decide +kernel) rfl ?_
      refine pe_get (j := 22) (ci := 7) (n := 4) (by decide +kernel) (by decide +kernel) cd_o33 rfl ?_
      refine pe_iload_n (j := 1) (by decide +kernel) rfl ?_
      refine pe_bipushv (n := 10) (v := 10) (by decide +kernel) (by decide +kernel) ?_
      refine pz_mul (by decide +kernel) rfl kz_10 (by omega) (by omega) (fun z4 hz4 => ?_)
      refine pe_iload_n (j := 2) (by decide +kernel) rfl ?_
      refine pz_add (by decide +kernel) hz4 kz_3 (by omega) (by omega) (fun z5 hz5 => ?_)
      clear hz4
      refine pz_iald (by decide +kernel) cd_a40 (cl_40 hI) hz5 (by omega) (by omega) (fun v6 ev6 => ?_)
      clear hz5
      refine pe_iret (by decide +kernel) rfl rfl ⟨rfl, rfl, ?_⟩
      show pmE pg X pg_tyl pg_cl (d + 1) 83 6 [.ref 33, .int x1] [.int v6] (cd f A R wr) _
      refine pe_iconstv (n := 1) (v := 1) (by decide +kernel) (by decide +kernel) ?_
      have lw8 := zi_lo v6
      have uw8 := zi_hi v6
      refine pz_icmp_ne (off := 7) (t := 14) (by decide +kernel) (by decide) rfl rfl kz_1 (fun h7 => ?_) (fun h7 => ?_)
      · skip
        refine pe_iconstv (n := 0) (v := 0) (by decide +kernel) (by decide +kernel) ?_
        refine pe_iret (by decide +kernel) rfl rfl ⟨rfl, rfl, ?_⟩
        show pmE pg X pg_tyl pg_cl (d + 2) 82 17 [.ref 33, .int x1] [.int 0] (cd f A R wr) _
        refine pz_if_ne (off := 5) (t := 22) (by decide +kernel) (by decide) rfl kz_0 (fun h9 => by omega) (fun h9 => ?_)
        refine pe_iconstv (n := 0) (v := 0) (by decide +kernel) (by decide +kernel) ?_
        exact pe_iret (by decide +kernel) rfl rfl ⟨A, 0, rfl, hI, (fun k n39 n40 => rfl), Or.inl ⟨rfl, trivial⟩⟩
      · skip
        refine pe_iconstv (n := 1) (v := 1) (by decide +kernel) (by decide +kernel) ?_
        refine pe_goto (off := 4) (t := 15) (by decide +kernel) (by decide) rfl ?_
        refine pe_iret (by decide +kernel) rfl rfl ⟨rfl, rfl, ?_⟩
        show pmE pg X pg_tyl pg_cl (d + 2) 82 17 [.ref 33, .int x1] [.int 1] (cd f A R wr) _
        refine pz_if_ne (off := 5) (t := 22) (by decide +kernel) (by decide) rfl kz_1 (fun h10 => ?_) (fun h10 => by omega)
        refine pe_aload_n (j := 0) (by decide +kernel) rfl ?_
        refine pe_iload_n (j := 1) (by decide +kernel) rfl ?_
        refine pz_callV (j := 114) (mj := 85) (by decide +kernel) (cll_V (args := [.int x1]) (n := 1) (by decide +kernel) rfl rfl cd_o33 (by decide +kernel) (Nat.le_of_ble_eq_true rfl) (Nat.le_of_ble_eq_true rfl)) (CM_85 hX hI (by omega)) (fun q11a q11b q11c q11d hqq11 => ?_)
        obtain ⟨A12, eq11, hIq11, hFq11, kq11⟩ := hqq11
        cases eq11
        refine ⟨rfl, rfl, ?_⟩
        show pmE pg X pg_tyl pg_cl (d + 2) 82 27 [.ref 33, .int x1] [] (cd f A12 R wr) _
        refine pe_iconstv (n := 1) (v := 1) (by decide +kernel) (by decide +kernel) ?_
        exact pe_iret (by decide +kernel) rfl rfl ⟨A12, 1, rfl, hIq11, (fun k n39 n40 => (hFq11 k n39 n40)), Or.inr (⟨rfl, (by omega)⟩)⟩
set_option maxRecDepth 100000 in
set_option maxHeartbeats 8000000 in
theorem CL_90_12 {X : pm_X} {d : Nat} {wr : pm_W} {Q : pm_R → Prop} {f : Nat → Int32} {A0 : Nat → List Int32} {R : Nat → Value} (hX : XO X) (k_52_0 : ∀ (A' : Nat → List Int32) (y1 : Int32), CI f A' R → (∀ k : Nat, k ≠ 39 → k ≠ 40 → A' k = A0 k) → (0 ≤ y1.toInt ∧ y1.toInt ≤ 37) → pmE pg X pg_tyl pg_cl (d + 2) 90 52 [.ref 33, .int y1] [] (cd f A' R wr) Q) : ∀ (m : Nat) (A : Nat → List Int32) (x1 : Int32), CI f A R → (∀ k : Nat, k ≠ 39 → k ≠ 40 → A k = A0 k) → (0 ≤ x1.toInt ∧ x1.toInt ≤ 37) → 37 - x1.toInt < (m : Int) → pmE pg X pg_tyl pg_cl (d + 2) 90 12 [.ref 33, .int x1] [] (cd f A R wr) Q := by
  intro m
  induction m with
  | zero =>
    intro A x1 hI hF gx1 hm
    exfalso
    have l0 := zi_lo x1
    have u0 := zi_hi x1
    omega
  | succ m ih =>
    intro A x1 hI hF gx1 hm
    refine pe_iload_n (j := 1) (by decide +kernel) rfl ?_
    refine pe_aload_n (j := 0) (by decide +kernel) rfl ?_
    refine pe_get (j := 32) (ci := 7) (n := 2) (by decide +kernel) (by decide +kernel) cd_o33 rfl ?_
    have hr_f_530 := cf_530 hI
    refine pz_icmp_ge (off := 35) (t := 52) (by decide +kernel) (by decide) rfl rfl rfl (fun h1 => ?_) (fun h1 => ?_)
    · skip
      exact k_52_0 A x1 hI (fun k n39 n40 => (hF k n39 n40)) (by omega)
    · skip
      refine pe_aload_n (j := 0) (by decide +kernel) rfl ?_
      refine pe_iload_n (j := 1) (by decide +kernel) rfl ?_
      refine pi_V (j := 103) (mj := 83) (by decide +kernel) (cll_V (args := [.int x1]) (n := 1) (by decide +kernel) rfl rfl cd_o33 (by decide +kernel) (Nat.le_of_ble_eq_true rfl) (Nat.le_of_ble_eq_true rfl)) ?_
      show pmE pg X pg_tyl pg_cl (d + 1) 83 0 [.ref 33, .int x1] [] (cd f A R wr) _
      refine pe_aload_n (j := 0) (by decide +kernel) rfl ?_
      refine pe_iload_n (j := 1) (by decide +kernel) rfl ?_
      refine pe_iconstv (n := 3) (v := 3) (by decide +kernel) (by decide +kernel) ?_
      refine pi_V (j := 100) (mj := 84) (by decide +kernel) (cll_V (args := [.int 3, .int x1]) (n := 2) (by decide +kernel) rfl rfl cd_o33 (by decide +kernel) (Nat.le_of_ble_eq_true rfl) (Nat.le_of_ble_eq_true rfl)) ?_
      show pmE pg X pg_tyl pg_cl (d) 84 0 [.ref 33, .int x1, .int 3] [] (cd f A R wr) _
      refine pe_aload_n (j := 0) (by decide +kernel) rfl ?_
      refine pe_get (j := 22) (ci := 7) (n := 4) (by decide +kernel) (by decide +kernel) cd_o33 rfl ?_
      refine pe_iload_n (j := 1) (by decide +kernel) rfl ?_
      refine pe_bipushv (n := 10) (v := 10) (by decide +kernel) (by decide +kernel) ?_
      refine pz_mul (by decide +kernel) rfl kz_10 (by omega) (by omega) (fun z2 hz2 => ?_)
      refine pe_iload_n (j := 2) (by decide +kernel) rfl ?_
      refine pz_add (by decide +kernel) hz2 kz_3 (by omega) (by omega) (fun z3 hz3 => ?_)
      clear hz2
      refine pz_iald (by decide +kernel) cd_a40 (cl_40 hI) hz3 (by omega) (by omega) (fun v4 ev4 => ?_)
      clear hz3
      refine pe_iret (by decide +kernel) rfl rfl ⟨rfl, rfl, ?_⟩
      show pmE pg X pg_tyl pg_cl (d + 1) 83 6 [.ref 33, .int x1] [.int v4] (cd f A R wr) _
      refine pe_iconstv (n := 1) (v := 1) (by decide +kernel) (by decide +kernel) ?_
      have lw6 := zi_lo v4
      have uw6 := zi_hi v4
      refine pz_icmp_ne (off := 7) (t := 14) (by decide +kernel) (by decide) rfl rfl kz_1 (fun h5 => ?_) (fun h5 => ?_)
      · skip
        refine pe_iconstv (n := 0) (v := 0) (by decide +kernel) (by decide +kernel) ?_
        refine pe_iret (by decide +kernel) rfl rfl ⟨rfl, rfl, ?_⟩
        show pmE pg X pg_tyl pg_cl (d + 2) 90 25 [.ref 33, .int x1] [.int 0] (cd f A R wr) _
        refine pz_if_eq (off := 21) (t := 46) (by decide +kernel) (by decide) rfl kz_0 (fun h7 => ?_) (fun h7 => by omega)
        refine pz_iinc (j := 1) (n := 1) (by decide +kernel) rfl rfl (by decide +kernel) (by omega) (by omega) (fun z8 hz8 => ?_)
        show pmE pg X pg_tyl pg_cl (d + 2) 90 49 [.ref 33, .int z8] [] (cd f A R wr) _
        refine pe_goto (off := (-37)) (t := 12) (by decide +kernel) (by decide) rfl ?_
        exact ih A z8 hI (fun k n39 n40 => (hF k n39 n40)) (by omega) (by omega)
      · skip
        refine pe_iconstv (n := 1) (v := 1) (by decide +kernel) (by decide +kernel) ?_
        refine pe_goto (off := 4) (t := 15) (by decide +kernel) (by decide) rfl ?_
        refine pe_iret (by decide +kernel) rfl rfl ⟨rfl, rfl, ?_⟩
        show pmE pg X pg_tyl pg_cl (d + 2) 90 25 [.ref 33, .int x1] [.int 1] (cd f A R wr) _
        refine pz_if_eq (off := 21) (t := 46) (by decide +kernel) (by decide) rfl kz_1 (fun h9 => by omega) (fun h9 => ?_)
        refine pe_aload_n (j := 0) (by decide +kernel) rfl ?_
        refine pe_iload_n (j := 1) (by decide +kernel) rfl ?_
        refine pe_iconstv (n := 2) (v := 2) (by decide +kernel) (by decide +kernel) ?_
        refine pi_V (j := 100) (mj := 84) (by decide +kernel) (cll_V (args := [.int 2, .int x1]) (n := 2) (by decide +kernel) rfl rfl cd_o33 (by decide +kernel) (Nat.le_of_ble_eq_true rfl) (Nat.le_of_ble_eq_true rfl)) ?_
        show pmE pg X pg_tyl pg_cl (d + 1) 84 0 [.ref 33, .int x1, .int 2] [] (cd f A R wr) _
        refine pe_aload_n (j := 0) (by decide +kernel) rfl ?_
        refine pe_get (j := 22) (ci := 7) (n := 4) (by decide +kernel) (by decide +kernel) cd_o33 rfl ?_
        refine pe_iload_n (j := 1) (by decide +kernel) rfl ?_
        refine pe_bipushv (n := 10) (v := 10) (by decide +kernel) (by decide +kernel) ?_
        refine pz_mul (by decide +kernel) rfl kz_10 (by omega) (by omega) (fun z10 hz10 => ?_)
        refine pe_iload_n (j := 2) (by decide +kernel) rfl ?_
        refine pz_add (by decide +kernel) hz10 kz_2 (by omega) (by omega) (fun z11 hz11 => ?_)
        clear hz10
        refine pz_iald (by decide +kernel) cd_a40 (cl_40 hI) hz11 (by omega) (by omega) (fun v12 ev12 => ?_)
        clear hz11
        refine pe_iret (by decide +kernel) rfl rfl ⟨rfl, rfl, ?_⟩
        show pmE pg X pg_tyl pg_cl (d + 2) 90 34 [.ref 33, .int x1] [.int v12] (cd f A R wr) _
        refine pe_aload_n (j := 0) (by decide +kernel) rfl ?_
        refine pe_get (j := 28) (ci := 7) (n := 1) (by decide +kernel) (by decide +kernel) cd_o33 rfl ?_
        have lw14 := zi_lo v12
        have uw14 := zi_hi v12
        have lw15 := zi_lo (f 529)
        have uw15 := zi_hi (f 529)
        refine pz_icmp_ge (off := 8) (t := 46) (by decide +kernel) (by decide) rfl rfl rfl (fun h13 => ?_) (fun h13 => ?_)
        · skip
          refine pz_iinc (j := 1) (n := 1) (by decide +kernel) rfl rfl (by decide +kernel) (by omega) (by omega) (fun z16 hz16 => ?_)
          show pmE pg X pg_tyl pg_cl (d + 2) 90 49 [.ref 33, .int z16] [] (cd f A R wr) _
          refine pe_goto (off := (-37)) (t := 12) (by decide +kernel) (by decide) rfl ?_
          exact ih A z16 hI (fun k n39 n40 => (hF k n39 n40)) (by omega) (by omega)
        · skip
          refine pe_aload_n (j := 0) (by decide +kernel) rfl ?_
          refine pe_iload_n (j := 1) (by decide +kernel) rfl ?_
          refine pz_callV (j := 114) (mj := 85) (by decide +kernel) (cll_V (args := [.int x1]) (n := 1) (by decide +kernel) rfl rfl cd_o33 (by decide +kernel) (Nat.le_of_ble_eq_true rfl) (Nat.le_of_ble_eq_true rfl)) (CM_85 hX hI (by omega)) (fun q17a q17b q17c q17d hqq17 => ?_)
          obtain ⟨A18, eq17, hIq17, hFq17, kq17⟩ := hqq17
          cases eq17
          refine ⟨rfl, rfl, ?_⟩
          show pmE pg X pg_tyl pg_cl (d + 2) 90 46 [.ref 33, .int x1] [] (cd f A18 R wr) _
          refine pz_iinc (j := 1) (n := 1) (by decide +kernel) rfl rfl (by decide +kernel) (by omega) (by omega) (fun z19 hz19 => ?_)
          show pmE pg X pg_tyl pg_cl (d + 2) 90 49 [.ref 33, .int z19] [] (cd f A18 R wr) _
          refine pe_goto (off := (-37)) (t := 12) (by decide +kernel) (by decide) rfl ?_
          exact ih A18 z19 hIq17 (fun k n39 n40 => ((hFq17 k n39 n40)).trans ((hF k n39 n40))) (by omega) (by omega)
set_option maxRecDepth 100000 in
set_option maxHeartbeats 8000000 in
theorem CM_90 {X : pm_X} {d : Nat} {wr : pm_W} {f : Nat → Int32} {A : Nat → List Int32} {R : Nat → Value} (hX : XO X) (hI : CI f A R) : pmE pg X pg_tyl pg_cl (d + 2) 90 0 (pm_ent (pm_max pg 90) [.ref 33]) [] (cd f A R wr) (fun q => ∃ (f' : Nat → Int32) (A' : Nat → List Int32) (r : Int32), q = (some (.int r), cd f' A' R wr, 0, 0) ∧ CI f' A' R ∧ (∀ k : Nat, k ≠ 529 → f' k = f k) ∧ (∀ k : Nat, k ≠ 39 → k ≠ 40 → A' k = A k) ∧ ((r = 1 ∧ True))) := by
  show pmE pg X pg_tyl pg_cl (d + 2) 90 0 [.ref 33, pm_dead] [] (cd f A R wr) _
  refine pe_aload_n (j := 0) (by decide +kernel) rfl ?_
  refine pe_dup (by decide +kernel) rfl ?_
  refine pe_get (j := 28) (ci := 7) (n := 1) (by decide +kernel) (by decide +kernel) cd_o33 rfl ?_
  refine pe_iconstv (n := 1) (v := 1) (by decide +kernel) (by decide +kernel) ?_
  refine pw_add (by decide +kernel) (fun z1 => ?_)
  refine cz_put529 (jj := 28) (by decide +kernel) (by decide +kernel) hI (fun f2 ef2 hIf2 => ?_)
  refine pe_iconstv (n := 0) (v := 0) (by decide +kernel) (by decide +kernel) ?_
  refine pe_istore_n (j := 1) (ls' := [.ref 33, .int 0]) (by decide +kernel) (Nat.le_of_ble_eq_true rfl) rfl ?_
  refine CL_90_12 hX (fun A3 y4 hIy5 hFA3 gy4 => ?_) 38 A 0 hIf2 (fun k _ _ => rfl) (by decide +kernel) (by decide +kernel)
  refine pe_iconstv (n := 1) (v := 1) (by decide +kernel) (by decide +kernel) ?_
  exact pe_iret (by decide +kernel) rfl rfl ⟨f2, A3, 1, rfl, hIy5, (fun k n529 => upf_fr ef2 n529), (fun k n39 n40 => (hFA3 k n39 n40)), ⟨rfl, trivial⟩⟩
set_option maxRecDepth 100000 in
set_option maxHeartbeats 8000000 in
theorem CL_94_4 {X : pm_X} {d : Nat} {wr : pm_W} {Q : pm_R → Prop} {f : Nat → Int32} {A : Nat → List Int32} {R : Nat → Value} {x1 : Int32} {v : Nat} (hX : XO X) (hI : CI f A R) (hv : VV v) (hR0 : R 0 = .ref v) (gx1 : (0 ≤ x1.toInt ∧ x1.toInt ≤ 8)) (k_45_0 : ∀ (y2 : Int32) (y3 : Int32), (0 ≤ y3.toInt ∧ y3.toInt ≤ 9) → pmE pg X pg_tyl pg_cl (d + 1) 94 45 [.ref 33, .int x1, .int y2, .int y3] [] (cd f A R wr) Q) : ∀ (m : Nat) (x2 : Int32) (x3 : Int32), (0 ≤ x3.toInt ∧ x3.toInt ≤ 9) → 9 - x3.toInt < (m : Int) → pmE pg X pg_tyl pg_cl (d + 1) 94 4 [.ref 33, .int x1, .int x2, .int x3] [] (cd f A R wr) Q := by
  have bv := VV_b hv
  intro m
  induction m with
  | zero =>
    intro x2 x3 gx3 hm
    exfalso
    have l0 := zi_lo x3
    have u0 := zi_hi x3
    omega
  | succ m ih =>
    intro x2 x3 gx3 hm
    refine pe_iload_n (j := 3) (by decide +kernel) rfl ?_
    refine pe_aload_n (j := 0) (by decide +kernel) rfl ?_
    refine pe_get (j := 12) (ci := 7) (n := 0) (by decide +kernel) (by decide +kernel) cd_o33 rfl ?_
    refine pe_topV (v := .ref v) (hR0) ?_
    refine pe_get (j := 121) (ci := 9) (n := 0) (by decide +kernel) (by decide +kernel) (cv_o hv) rfl ?_
    have hr_f_16v := cv_people hv hI
    refine pz_icmp_ge (off := 33) (t := 45) (by decide +kernel) (by decide) rfl rfl rfl (fun h1 => ?_) (fun h1 => ?_)
    · skip
      exact k_45_0 x2 x3 (by omega)
    · skip
      refine pe_iload_n (j := 2) (by decide +kernel) rfl ?_
      refine pe_aload_n (j := 0) (by decide +kernel) rfl ?_
      refine pe_get (j := 18) (ci := 7) (n := 3) (by decide +kernel) (by decide +kernel) cd_o33 rfl ?_
      refine pe_iload_n (j := 1) (by decide +kernel) rfl ?_
      refine pe_iload_n (j := 3) (by decide +kernel) rfl ?_
      refine pi_S (j := 50) (mj := 52) (by decide +kernel) (by decide +kernel) rfl ?_
      show pmE pg X pg_tyl pg_cl (d) 52 0 [.int x1, .int x3] [] (cd f A R wr) _
      refine pe_iload_n (j := 0) (by decide +kernel) rfl ?_
      refine pe_bipushv (n := 9) (v := 9) (by decide +kernel) (by decide +kernel) ?_
      refine pz_mul (by decide +kernel) rfl kz_9 (by omega) (by omega) (fun z2 hz2 => ?_)
      refine pe_iload_n (j := 1) (by decide +kernel) rfl ?_
      refine pz_add (by decide +kernel) hz2 rfl (by omega) (by omega) (fun z3 hz3 => ?_)
      clear hz2
      refine pe_iret (by decide +kernel) rfl rfl ⟨rfl, rfl, ?_⟩
      show pmE pg X pg_tyl pg_cl (d + 1) 94 25 [.ref 33, .int x1, .int x2, .int x3] [.int z3, .ref 39, .int x2] (cd f A R wr) _
      refine pz_iald (by decide +kernel) cd_a39 (cl_39 hI) hz3 (by omega) (by omega) (fun v4 ev4 => ?_)
      clear hz3
      refine pe_aload_n (j := 0) (by decide +kernel) rfl ?_
      refine pe_get (j := 18) (ci := 7) (n := 3) (by decide +kernel) (by decide +kernel) cd_o33 rfl ?_
      refine pe_iload_n (j := 3) (by decide +kernel) rfl ?_
      refine pe_iload_n (j := 1) (by decide +kernel) rfl ?_
      refine pi_S (j := 50) (mj := 52) (by decide +kernel) (by decide +kernel) rfl ?_
      show pmE pg X pg_tyl pg_cl (d) 52 0 [.int x3, .int x1] [] (cd f A R wr) _
      refine pe_iload_n (j := 0) (by decide +kernel) rfl ?_
      refine pe_bipushv (n := 9) (v := 9) (by decide +kernel) (by decide +kernel) ?_
      refine pz_mul (by decide +kernel) rfl kz_9 (by omega) (by omega) (fun z5 hz5 => ?_)
      refine pe_iload_n (j := 1) (by decide +kernel) rfl ?_
      refine pz_add (by decide +kernel) hz5 rfl (by omega) (by omega) (fun z6 hz6 => ?_)
      clear hz5
      refine pe_iret (by decide +kernel) rfl rfl ⟨rfl, rfl, ?_⟩
      show pmE pg X pg_tyl pg_cl (d + 1) 94 35 [.ref 33, .int x1, .int x2, .int x3] [.int z6, .ref 39, .int v4, .int x2] (cd f A R wr) _
      refine pz_iald (by decide +kernel) cd_a39 (cl_39 hI) hz6 (by omega) (by omega) (fun v7 ev7 => ?_)
      clear hz6
      refine pw_sub (by decide +kernel) (fun z8 => ?_)
      refine pw_add (by decide +kernel) (fun z9 => ?_)
      refine pe_istore_n (j := 2) (ls' := [.ref 33, .int x1, .int z9, .int x3]) (by decide +kernel) (Nat.le_of_ble_eq_true rfl) rfl ?_
      refine pz_iinc (j := 3) (n := 1) (by decide +kernel) rfl rfl (by decide +kernel) (by omega) (by omega) (fun z10 hz10 => ?_)
      show pmE pg X pg_tyl pg_cl (d + 1) 94 42 [.ref 33, .int x1, .int z9, .int z10] [] (cd f A R wr) _
      refine pe_goto (off := (-38)) (t := 4) (by decide +kernel) (by decide) rfl ?_
      exact ih z9 z10 (by omega) (by omega)
set_option maxRecDepth 100000 in
set_option maxHeartbeats 8000000 in
theorem CM_94 {X : pm_X} {d : Nat} {wr : pm_W} {f : Nat → Int32} {A : Nat → List Int32} {R : Nat → Value} {x1 : Int32} {v : Nat} (hX : XO X) (hI : CI f A R) (hv : VV v) (hR0 : R 0 = .ref v) (gx1 : (0 ≤ x1.toInt ∧ x1.toInt ≤ 8)) : pmE pg X pg_tyl pg_cl (d + 1) 94 0 (pm_ent (pm_max pg 94) [.ref 33, .int x1]) [] (cd f A R wr) (fun q => ∃ (r : Int32), q = (some (.int r), cd f A R wr, 0, 0) ∧ ((True ∧ True))) := by
  have bv := VV_b hv
  show pmE pg X pg_tyl pg_cl (d + 1) 94 0 [.ref 33, .int x1, pm_dead, pm_dead] [] (cd f A R wr) _
  refine pe_iconstv (n := 0) (v := 0) (by decide +kernel) (by decide +kernel) ?_
  refine pe_istore_n (j := 2) (ls' := [.ref 33, .int x1, .int 0, pm_dead]) (by decide +kernel) (Nat.le_of_ble_eq_true rfl) rfl ?_
  refine pe_iconstv (n := 0) (v := 0) (by decide +kernel) (by decide +kernel) ?_
  refine pe_istore_n (j := 3) (ls' := [.ref 33, .int x1, .int 0, .int 0]) (by decide +kernel) (Nat.le_of_ble_eq_true rfl) rfl ?_
  refine CL_94_4 hX hI hv (hR0) (by omega) (fun y1 y2 gy2 => ?_) 10 0 0 (by decide +kernel) (by decide +kernel)
  refine pe_iload_n (j := 2) (by decide +kernel) rfl ?_
  exact pe_iret (by decide +kernel) rfl rfl ⟨y1, rfl, ⟨trivial, trivial⟩⟩
set_option maxRecDepth 100000 in
set_option maxHeartbeats 8000000 in
theorem CL_93_2 {X : pm_X} {d : Nat} {wr : pm_W} {Q : pm_R → Prop} {f : Nat → Int32} {A : Nat → List Int32} {R : Nat → Value} {x1 : Int32} {v : Nat} (hX : XO X) (hI : CI f A R) (hv : VV v) (hR0 : R 0 = .ref v) (k_33_0 : ∀ (y2 : Int32), (0 ≤ y2.toInt ∧ y2.toInt ≤ 9) → pmE pg X pg_tyl pg_cl (d + 2) 93 33 [.ref 33, .int x1, .int y2] [] (cd f A R wr) Q) (kr_0 : Q (some (.int 0), cd f A R wr, 0, 0)) : ∀ (m : Nat) (x2 : Int32), (0 ≤ x2.toInt ∧ x2.toInt ≤ 9) → 9 - x2.toInt < (m : Int) → pmE pg X pg_tyl pg_cl (d + 2) 93 2 [.ref 33, .int x1, .int x2] [] (cd f A R wr) Q := by
  have bv := VV_b hv
  intro m
  induction m with
  | zero =>
    intro x2 gx2 hm
    exfalso
    have l0 := zi_lo x2
    have u0 := zi_hi x2
    omega
  | succ m ih =>
    intro x2 gx2 hm
    refine pe_iload_n (j := 2) (by decide +kernel) rfl ?_
    refine pe_aload_n (j := 0) (by decide +kernel) rfl ?_
    refine pe_get (j := 12) (ci := 7) (n := 0) (by decide +kernel) (by decide +kernel) cd_o33 rfl ?_
    refine pe_topV (v := .ref v) (hR0) ?_
    refine pe_get (j := 121) (ci := 9) (n := 0) (by decide +kernel) (by decide +kernel) (cv_o hv) rfl ?_
    have hr_f_16v := cv_people hv hI
    refine pz_icmp_ge (off := 23) (t := 33) (by decide +kernel) (by decide) rfl rfl rfl (fun h1 => ?_) (fun h1 => ?_)
    · skip
      exact k_33_0 x2 (by omega)
    · skip
      refine pe_aload_n (j := 0) (by decide +kernel) rfl ?_
      refine pe_iload_n (j := 2) (by decide +kernel) rfl ?_
      refine pz_callV (j := 124) (mj := 94) (by decide +kernel) (cll_V (args := [.int x2]) (n := 1) (by decide +kernel) rfl rfl cd_o33 (by decide +kernel) (Nat.le_of_ble_eq_true rfl) (Nat.le_of_ble_eq_true rfl)) (CM_94 hX hI hv (hR0) (by omega)) (fun q2a q2b q2c q2d hqq2 => ?_)
      obtain ⟨rq2, eq2, kq2⟩ := hqq2
      cases eq2
      refine ⟨rfl, rfl, ?_⟩
      show pmE pg X pg_tyl pg_cl (d + 2) 93 18 [.ref 33, .int x1, .int x2] [.int rq2] (cd f A R wr) _
      refine pw_abs (j := 127) (by decide +kernel) (by decide +kernel) (Nat.le_of_ble_eq_true rfl) (fun z3 => ?_)
      refine pe_iload_n (j := 1) (by decide +kernel) rfl ?_
      have lw5 := zi_lo z3
      have uw5 := zi_hi z3
      have lw6 := zi_lo x1
      have uw6 := zi_hi x1
      refine pz_icmp_le (off := 5) (t := 27) (by decide +kernel) (by decide) rfl rfl rfl (fun h4 => ?_) (fun h4 => ?_)
      · skip
        refine pz_iinc (j := 2) (n := 1) (by decide +kernel) rfl rfl (by decide +kernel) (by omega) (by omega) (fun z7 hz7 => ?_)
        show pmE pg X pg_tyl pg_cl (d + 2) 93 30 [.ref 33, .int x1, .int z7] [] (cd f A R wr) _
        refine pe_goto (off := (-28)) (t := 2) (by decide +kernel) (by decide) rfl ?_
        exact ih z7 (by omega) (by omega)
      · skip
        refine pe_iconstv (n := 0) (v := 0) (by decide +kernel) (by decide +kernel) ?_
        exact pe_iret (by decide +kernel) rfl rfl kr_0
set_option maxRecDepth 100000 in
set_option maxHeartbeats 8000000 in
theorem CM_93 {X : pm_X} {d : Nat} {wr : pm_W} {f : Nat → Int32} {A : Nat → List Int32} {R : Nat → Value} {x1 : Int32} {v : Nat} (hX : XO X) (hI : CI f A R) (hv : VV v) (hR0 : R 0 = .ref v) : pmE pg X pg_tyl pg_cl (d + 2) 93 0 (pm_ent (pm_max pg 93) [.ref 33, .int x1]) [] (cd f A R wr) (fun q => ∃ (r : Int32), q = (some (.int r), cd f A R wr, 0, 0) ∧ ((r = 0 ∧ True) ∨ (r = 1 ∧ True))) := by
  have bv := VV_b hv
  show pmE pg X pg_tyl pg_cl (d + 2) 93 0 [.ref 33, .int x1, pm_dead] [] (cd f A R wr) _
  refine pe_iconstv (n := 0) (v := 0) (by decide +kernel) (by decide +kernel) ?_
  refine pe_istore_n (j := 2) (ls' := [.ref 33, .int x1, .int 0]) (by decide +kernel) (Nat.le_of_ble_eq_true rfl) rfl ?_
  refine CL_93_2 hX hI hv (hR0) (fun y1 gy1 => ?_) (⟨0, rfl, Or.inl ⟨rfl, trivial⟩⟩) 10 0 (by decide +kernel) (by decide +kernel)
  refine pe_iconstv (n := 1) (v := 1) (by decide +kernel) (by decide +kernel) ?_
  exact pe_iret (by decide +kernel) rfl rfl ⟨1, rfl, Or.inr (⟨rfl, trivial⟩)⟩
set_option maxRecDepth 100000 in
set_option maxHeartbeats 8000000 in
theorem CM_92 {X : pm_X} {d : Nat} {wr : pm_W} {f : Nat → Int32} {A : Nat → List Int32} {R : Nat → Value} {v : Nat} (hX : XO X) (hI : CI f A R) (hv : VV v) (hR0 : R 0 = .ref v) : pmE pg X pg_tyl pg_cl (d + 3) 92 0 (pm_ent (pm_max pg 92) [.ref 33]) [] (cd f A R wr) (fun q => ∃ (r : Int32), q = (some (.int r), cd f A R wr, 0, 0) ∧ ((r = 0 ∧ True) ∨ (r = 1 ∧ True))) := by
  have bv := VV_b hv
  show pmE pg X pg_tyl pg_cl (d + 3) 92 0 [.ref 33] [] (cd f A R wr) _
  refine pe_aload_n (j := 0) (by decide +kernel) rfl ?_
  refine pe_aload_n (j := 0) (by decide +kernel) rfl ?_
  refine pe_get (j := 12) (ci := 7) (n := 0) (by decide +kernel) (by decide +kernel) cd_o33 rfl ?_
  refine pe_topV (v := .ref v) (hR0) ?_
  refine pe_get (j := 130) (ci := 9) (n := 1) (by decide +kernel) (by decide +kernel) (cv_o hv) rfl ?_
  refine pz_callV (j := 133) (mj := 93) (by decide +kernel) (cll_V (args := [.int (f (16 * v + 1))]) (n := 1) (by decide +kernel) rfl rfl cd_o33 (by decide +kernel) (Nat.le_of_ble_eq_true rfl) (Nat.le_of_ble_eq_true rfl)) (CM_93 hX hI hv (hR0)) (fun q1a q1b q1c q1d hqq1 => ?_)
  obtain ⟨rq1, eq1, kq1⟩ := hqq1
  cases eq1
  refine ⟨rfl, rfl, ?_⟩
  rcases kq1 with kq1 | kq1
  · skip
    obtain ⟨erq1, kq1⟩ := kq1
    subst erq1
    show pmE pg X pg_tyl pg_cl (d + 3) 92 11 [.ref 33] [.int 0] (cd f A R wr) _
    exact pe_iret (by decide +kernel) rfl rfl ⟨0, rfl, Or.inl ⟨rfl, trivial⟩⟩
  · skip
    obtain ⟨erq1, kq1⟩ := kq1
    subst erq1
    show pmE pg X pg_tyl pg_cl (d + 3) 92 11 [.ref 33] [.int 1] (cd f A R wr) _
    exact pe_iret (by decide +kernel) rfl rfl ⟨1, rfl, Or.inr (⟨rfl, trivial⟩)⟩
set_option maxRecDepth 100000 in
set_option maxHeartbeats 8000000 in
theorem CL_106_17 {X : pm_X} {d : Nat} {wr : pm_W} {Q : pm_R → Prop} {f : Nat → Int32} {A : Nat → List Int32} {R : Nat → Value} {x2 : Int32} {v : Nat} (hX : XO X) (hI : CI f A R) (hv : VV v) (hR0 : R 0 = .ref v) (gx2 : (0 ≤ x2.toInt ∧ x2.toInt ≤ 8)) (k_43_0 : ∀ (y1 : Int32) (y3 : Int32), (0 ≤ y3.toInt ∧ y3.toInt ≤ 9) → pmE pg X pg_tyl pg_cl (d + 2) 106 43 [.ref 33, .int y1, .int x2, .int y3] [] (cd f A R wr) Q) : ∀ (m : Nat) (x1 : Int32) (x3 : Int32), (0 ≤ x3.toInt ∧ x3.toInt ≤ 9) → 9 - x3.toInt < (m : Int) → pmE pg X pg_tyl pg_cl (d + 2) 106 17 [.ref 33, .int x1, .int x2, .int x3] [] (cd f A R wr) Q := by
  have bv := VV_b hv
  intro m
  induction m with
  | zero =>
    intro x1 x3 gx3 hm
    exfalso
    have l0 := zi_lo x3
    have u0 := zi_hi x3
    omega
  | succ m ih =>
    intro x1 x3 gx3 hm
    refine pe_iload_n (j := 3) (by decide +kernel) rfl ?_
    refine pe_aload_n (j := 0) (by decide +kernel) rfl ?_
    refine pe_get (j := 12) (ci := 7) (n := 0) (by decide +kernel) (by decide +kernel) cd_o33 rfl ?_
    refine pe_topV (v := .ref v) (hR0) ?_
    refine pe_get (j := 121) (ci := 9) (n := 0) (by decide +kernel) (by decide +kernel) (cv_o hv) rfl ?_
    have hr_f_16v := cv_people hv hI
    refine pz_icmp_ge (off := 18) (t := 43) (by decide +kernel) (by decide) rfl rfl rfl (fun h1 => ?_) (fun h1 => ?_)
    · skip
      exact k_43_0 x1 x3 (by omega)
    · skip
      refine pe_iload_n (j := 1) (by decide +kernel) rfl ?_
      refine pe_aload_n (j := 0) (by decide +kernel) rfl ?_
      refine pe_iload_n (j := 2) (by decide +kernel) rfl ?_
      refine pe_iload_n (j := 3) (by decide +kernel) rfl ?_
      refine pz_callV (j := 89) (mj := 77) (by decide +kernel) (cll_V (args := [.int x3, .int x2]) (n := 2) (by decide +kernel) rfl rfl cd_o33 (by decide +kernel) (Nat.le_of_ble_eq_true rfl) (Nat.le_of_ble_eq_true rfl)) (CM_77 hX hI hv (hR0) (by omega) (by omega)) (fun q2a q2b q2c q2d hqq2 => ?_)
      obtain ⟨rq2, eq2, kq2⟩ := hqq2
      cases eq2
      refine ⟨rfl, rfl, ?_⟩
      show pmE pg X pg_tyl pg_cl (d + 2) 106 35 [.ref 33, .int x1, .int x2, .int x3] [.int rq2, .int x1] (cd f A R wr) _
      refine pw_add (by decide +kernel) (fun z3 => ?_)
      refine pe_istore_n (j := 1) (ls' := [.ref 33, .int z3, .int x2, .int x3]) (by decide +kernel) (Nat.le_of_ble_eq_true rfl) rfl ?_
      refine pz_iinc (j := 3) (n := 1) (by decide +kernel) rfl rfl (by decide +kernel) (by omega) (by omega) (fun z4 hz4 => ?_)
      show pmE pg X pg_tyl pg_cl (d + 2) 106 40 [.ref 33, .int z3, .int x2, .int z4] [] (cd f A R wr) _
      refine pe_goto (off := (-23)) (t := 17) (by decide +kernel) (by decide) rfl ?_
      exact ih z3 z4 (by omega) (by omega)
set_option maxRecDepth 100000 in
set_option maxHeartbeats 8000000 in
theorem CL_106_4 {X : pm_X} {d : Nat} {wr : pm_W} {Q : pm_R → Prop} {f : Nat → Int32} {A : Nat → List Int32} {R : Nat → Value} {v : Nat} (hX : XO X) (hI : CI f A R) (hv : VV v) (hR0 : R 0 = .ref v) (k_49_0 : ∀ (y1 : Int32) (y2 : Int32) (v3 : Value), (0 ≤ y2.toInt ∧ y2.toInt ≤ 9) → pmE pg X pg_tyl pg_cl (d + 2) 106 49 [.ref 33, .int y1, .int y2, v3] [] (cd f A R wr) Q) : ∀ (m : Nat) (x1 : Int32) (x2 : Int32) (u3 : Value), (0 ≤ x2.toInt ∧ x2.toInt ≤ 9) → 9 - x2.toInt < (m : Int) → pmE pg X pg_tyl pg_cl (d + 2) 106 4 [.ref 33, .int x1, .int x2, u3] [] (cd f A R wr) Q := by
  have bv := VV_b hv
  intro m
  induction m with
  | zero =>
    intro x1 x2 u3 gx2 hm
    exfalso
    have l0 := zi_lo x2
    have u0 := zi_hi x2
    omega
  | succ m ih =>
    intro x1 x2 u3 gx2 hm
    refine pe_iload_n (j := 2) (by decide +kernel) rfl ?_
    refine pe_aload_n (j := 0) (by decide +kernel) rfl ?_
    refine pe_get (j := 12) (ci := 7) (n := 0) (by decide +kernel) (by decide +kernel) cd_o33 rfl ?_
    refine pe_topV (v := .ref v) (hR0) ?_
    refine pe_get (j := 121) (ci := 9) (n := 0) (by decide +kernel) (by decide +kernel) (cv_o hv) rfl ?_
    have hr_f_16v := cv_people hv hI
    refine pz_icmp_ge (off := 37) (t := 49) (by decide +kernel) (by decide) rfl rfl rfl (fun h1 => ?_) (fun h1 => ?_)
    · skip
      exact k_49_0 x1 x2 (u3) (by omega)
    · skip
      refine pe_iconstv (n := 0) (v := 0) (by decide +kernel) (by decide +kernel) ?_
      refine pe_istore_n (j := 3) (ls' := [.ref 33, .int x1, .int x2, .int 0]) (by decide +kernel) (Nat.le_of_ble_eq_true rfl) rfl ?_
      refine CL_106_17 hX hI hv (hR0) (by omega) (fun y2 y3 gy3 => ?_) 10 x1 0 (by decide +kernel) (by decide +kernel)
      refine pz_iinc (j := 2) (n := 1) (by decide +kernel) rfl rfl (by decide +kernel) (by omega) (by omega) (fun z4 hz4 => ?_)
      show pmE pg X pg_tyl pg_cl (d + 2) 106 46 [.ref 33, .int y2, .int z4, .int y3] [] (cd f A R wr) _
      refine pe_goto (off := (-42)) (t := 4) (by decide +kernel) (by decide) rfl ?_
      exact ih y2 z4 (.int y3) (by omega) (by omega)
set_option maxRecDepth 100000 in
set_option maxHeartbeats 8000000 in
theorem CM_106 {X : pm_X} {d : Nat} {wr : pm_W} {f : Nat → Int32} {A : Nat → List Int32} {R : Nat → Value} {v : Nat} (hX : XO X) (hI : CI f A R) (hv : VV v) (hR0 : R 0 = .ref v) : pmE pg X pg_tyl pg_cl (d + 2) 106 0 (pm_ent (pm_max pg 106) [.ref 33]) [] (cd f A R wr) (fun q => ∃ (r : Int32), q = (some (.int r), cd f A R wr, 0, 0) ∧ ((True ∧ True))) := by
  have bv := VV_b hv
  show pmE pg X pg_tyl pg_cl (d + 2) 106 0 [.ref 33, pm_dead, pm_dead, pm_dead] [] (cd f A R wr) _
  refine pe_iconstv (n := 0) (v := 0) (by decide +kernel) (by decide +kernel) ?_
  refine pe_istore_n (j := 1) (ls' := [.ref 33, .int 0, pm_dead, pm_dead]) (by decide +kernel) (Nat.le_of_ble_eq_true rfl) rfl ?_
  refine pe_iconstv (n := 0) (v := 0) (by decide +kernel) (by decide +kernel) ?_
  refine pe_istore_n (j := 2) (ls' := [.ref 33, .int 0, .int 0, pm_dead]) (by decide +kernel) (Nat.le_of_ble_eq_true rfl) rfl ?_
  refine CL_106_4 hX hI hv (hR0) (fun y1 y2 u3 gy2 => ?_) 10 0 0 (pm_dead) (by decide +kernel) (by decide +kernel)
  refine pe_iload_n (j := 1) (by decide +kernel) rfl ?_
  exact pe_iret (by decide +kernel) rfl rfl ⟨y1, rfl, ⟨trivial, trivial⟩⟩
