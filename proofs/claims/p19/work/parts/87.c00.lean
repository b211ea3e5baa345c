section
set_option maxRecDepth 100000 in
set_option maxHeartbeats 8000000 in
theorem CL_107_16 {X : pm_X} {d : Nat} {wr : pm_W} {Q : pm_R → Prop} {f : Nat → Int32} {A : Nat → List Int32} {R : Nat → Value} {x3 : Int32} (hX : XO X) (hI : CI f A R) (gx3 : (0 ≤ x3.toInt ∧ x3.toInt ≤ 8)) (k_58_0 : ∀ (y2 : Int32) (y4 : Int32), (0 ≤ y4.toInt ∧ y4.toInt ≤ 8) → x3.toInt ≤ y4.toInt → pmE pg X pg_tyl pg_cl (d + 1) 107 58 [.ref 42, .ref 33, .int y2, .int x3, .int y4] [] (cd f A R wr) Q) : ∀ (m : Nat) (x2 : Int32) (x4 : Int32), (0 ≤ x4.toInt ∧ x4.toInt ≤ 8) → 8 - x4.toInt < (m : Int) → pmE pg X pg_tyl pg_cl (d + 1) 107 16 [.ref 42, .ref 33, .int x2, .int x3, .int x4] [] (cd f A R wr) Q := by
  intro m
  induction m with
  | zero =>
    intro x2 x4 gx4 hm
    exfalso
    have l0 := zi_lo x4
    have u0 := zi_hi x4
    omega
  | succ m ih =>
    intro x2 x4 gx4 hm
    refine pe_iload (j := 4) (by decide +kernel) rfl ?_
    refine pe_iload_n (j := 3) (by decide +kernel) rfl ?_
    refine pz_icmp_ge (off := 39) (t := 58) (by decide +kernel) (by decide) rfl rfl rfl (fun h1 => ?_) (fun h1 => ?_)
    · skip
      exact k_58_0 x2 x4 (by omega) (by omega)
    · skip
      refine pe_iload_n (j := 2) (by decide +kernel) rfl ?_
      refine pe_iconstv (n := 2) (v := 2) (by decide +kernel) (by decide +kernel) ?_
      refine pe_aload_n (j := 1) (by decide +kernel) rfl ?_
      refine pe_get (j := 32) (ci := 7) (n := 3) (by decide +kernel) (by decide +kernel) cd_o33 rfl ?_
      refine pe_iload_n (j := 3) (by decide +kernel) rfl ?_
      refine pe_iload (j := 4) (by decide +kernel) rfl ?_
      refine pi_S (j := 35) (mj := 52) (by decide +kernel) (by decide +kernel) rfl ?_
      show pmE pg X pg_tyl pg_cl (d) 52 0 [.int x3, .int x4] [] (cd f A R wr) _
      refine pe_iload_n (j := 0) (by decide +kernel) rfl ?_
      refine pe_bipushv (n := 9) (v := 9) (by decide +kernel) (by decide +kernel) ?_
      refine pz_mul (by decide +kernel) rfl kz_9 (by omega) (by omega) (fun z2 hz2 => ?_)
      refine pe_iload_n (j := 1) (by decide +kernel) rfl ?_
      refine pz_add (by decide +kernel) hz2 rfl (by omega) (by omega) (fun z3 hz3 => ?_)
      clear hz2
      refine pe_iret (by decide +kernel) rfl rfl ⟨rfl, rfl, ?_⟩
      show pmE pg X pg_tyl pg_cl (d + 1) 107 34 [.ref 42, .ref 33, .int x2, .int x3, .int x4] [.int z3, .ref 39, .int 2, .int x2] (cd f A R wr) _
      refine pz_iald (by decide +kernel) cd_a39 (cl_39 hI) hz3 (by omega) (by omega) (fun v4 ev4 => ?_)
      clear hz3
      refine pe_aload_n (j := 1) (by decide +kernel) rfl ?_
      refine pe_get (j := 32) (ci := 7) (n := 3) (by decide +kernel) (by decide +kernel) cd_o33 rfl ?_
      refine pe_iload (j := 4) (by decide +kernel) rfl ?_
      refine pe_iload_n (j := 3) (by decide +kernel) rfl ?_
      refine pi_S (j := 35) (mj := 52) (by decide +kernel) (by decide +kernel) rfl ?_
      show pmE pg X pg_tyl pg_cl (d) 52 0 [.int x4, .int x3] [] (cd f A R wr) _
      refine pe_iload_n (j := 0) (by decide +kernel) rfl ?_
      refine pe_bipushv (n := 9) (v := 9) (by decide +kernel) (by decide +kernel) ?_
      refine pz_mul (by decide +kernel) rfl kz_9 (by omega) (by omega) (fun z5 hz5 => ?_)
      refine pe_iload_n (j := 1) (by decide +kernel) rfl ?_
      refine pz_add (by decide +kernel) hz5 rfl (by omega) (by omega) (fun z6 hz6 => ?_)
      clear hz5
      refine pe_iret (by decide +kernel) rfl rfl ⟨rfl, rfl, ?_⟩
      show pmE pg X pg_tyl pg_cl (d + 1) 107 45 [.ref 42, .ref 33, .int x2, .int x3, .int x4] [.int z6, .ref 39, .int v4, .int 2, .int x2] (cd f A R wr) _
      refine pz_iald (by decide +kernel) cd_a39 (cl_39 hI) hz6 (by omega) (by omega) (fun v7 ev7 => ?_)
      clear hz6
      have lw9 := zi_lo v4
      have uw9 := zi_hi v4
      have lw10 := zi_lo v7
      have uw10 := zi_hi v7
      refine pz_min (j := 39) (c := (-2147483648)) (by decide +kernel) (by decide +kernel) (Nat.le_of_ble_eq_true rfl) rfl rfl (by omega) (by omega) (fun z8 hz8 => ?_)
      refine pw_mul (by decide +kernel) (fun z11 => ?_)
      refine pw_sub (by decide +kernel) (fun z12 => ?_)
      refine pe_istore_n (j := 2) (ls' := [.ref 42, .ref 33, .int z12, .int x3, .int x4]) (by decide +kernel) (Nat.le_of_ble_eq_true rfl) rfl ?_
      refine pz_iinc (j := 4) (n := 1) (by decide +kernel) rfl rfl (by decide +kernel) (by omega) (by omega) (fun z13 hz13 => ?_)
      show pmE pg X pg_tyl pg_cl (d + 1) 107 55 [.ref 42, .ref 33, .int z12, .int x3, .int z13] [] (cd f A R wr) _
      refine pe_goto (off := (-39)) (t := 16) (by decide +kernel) (by decide) rfl ?_
      exact ih z12 z13 (by omega) (by omega)
set_option maxRecDepth 100000 in
set_option maxHeartbeats 8000000 in
theorem CL_107_7 {X : pm_X} {d : Nat} {wr : pm_W} {Q : pm_R → Prop} {f : Nat → Int32} {A : Nat → List Int32} {R : Nat → Value} (hX : XO X) (hI : CI f A R) (k_64_0 : ∀ (y2 : Int32) (y3 : Int32) (v4 : Value), (9 ≤ y3.toInt ∧ y3.toInt ≤ 9) → pmE pg X pg_tyl pg_cl (d + 1) 107 64 [.ref 42, .ref 33, .int y2, .int y3, v4] [] (cd f A R wr) Q) : ∀ (m : Nat) (x2 : Int32) (x3 : Int32) (u4 : Value), (0 ≤ x3.toInt ∧ x3.toInt ≤ 9) → 9 - x3.toInt < (m : Int) → pmE pg X pg_tyl pg_cl (d + 1) 107 7 [.ref 42, .ref 33, .int x2, .int x3, u4] [] (cd f A R wr) Q := by
  intro m
  induction m with
  | zero =>
    intro x2 x3 u4 gx3 hm
    exfalso
    have l0 := zi_lo x3
    have u0 := zi_hi x3
    omega
  | succ m ih =>
    intro x2 x3 u4 gx3 hm
    refine pe_iload_n (j := 3) (by decide +kernel) rfl ?_
    refine pe_bipushv (n := 9) (v := 9) (by decide +kernel) (by decide +kernel) ?_
    refine pz_icmp_ge (off := 54) (t := 64) (by decide +kernel) (by decide) rfl rfl kz_9 (fun h1 => ?_) (fun h1 => ?_)
    · skip
      exact k_64_0 x2 x3 (u4) (by omega)
    · skip
      refine pe_iconstv (n := 0) (v := 0) (by decide +kernel) (by decide +kernel) ?_
      refine pe_istore (j := 4) (ls' := [.ref 42, .ref 33, .int x2, .int x3, .int 0]) (by decide +kernel) (Nat.le_of_ble_eq_true rfl) rfl ?_
      refine CL_107_16 hX hI (by omega) (fun y2 y3 gy3 hr4 => ?_) 9 x2 0 (by decide +kernel) (by decide +kernel)
      refine pz_iinc (j := 3) (n := 1) (by decide +kernel) rfl rfl (by decide +kernel) (by omega) (by omega) (fun z5 hz5 => ?_)
      show pmE pg X pg_tyl pg_cl (d + 1) 107 61 [.ref 42, .ref 33, .int y2, .int z5, .int y3] [] (cd f A R wr) _
      refine pe_goto (off := (-54)) (t := 7) (by decide +kernel) (by decide) rfl ?_
      exact ih y2 z5 (.int y3) (by omega) (by omega)
set_option maxRecDepth 100000 in
set_option maxHeartbeats 8000000 in
theorem CM_107 {X : pm_X} {d : Nat} {wr : pm_W} {f : Nat → Int32} {A : Nat → List Int32} {R : Nat → Value} (hX : XO X) (hI : CI f A R) : pmE pg X pg_tyl pg_cl (d + 1) 107 0 (pm_ent (pm_max pg 107) [.ref 42, .ref 33]) [] (cd f A R wr) (fun q => ∃ (r : Int32), q = (some (.int r), cd f A R wr, 0, 0) ∧ ((True ∧ True))) := by
  show pmE pg X pg_tyl pg_cl (d + 1) 107 0 [.ref 42, .ref 33, pm_dead, pm_dead, pm_dead] [] (cd f A R wr) _
  refine pe_aload_n (j := 1) (by decide +kernel) rfl ?_
  refine pz_callV (j := 28) (mj := 105) (by decide +kernel) (cll_V (args := []) (n := 0) (by decide +kernel) rfl rfl cd_o33 (by decide +kernel) (Nat.le_of_ble_eq_true rfl) (Nat.le_of_ble_eq_true rfl)) (CM_105 hX hI) (fun q1a q1b q1c q1d hqq1 => ?_)
  obtain ⟨rq1, eq1, kq1⟩ := hqq1
  cases eq1
  refine ⟨rfl, rfl, ?_⟩
  show pmE pg X pg_tyl pg_cl (d + 1) 107 4 [.ref 42, .ref 33, pm_dead, pm_dead, pm_dead] [.int rq1] (cd f A R wr) _
  refine pe_istore_n (j := 2) (ls' := [.ref 42, .ref 33, .int rq1, pm_dead, pm_dead]) (by decide +kernel) (Nat.le_of_ble_eq_true rfl) rfl ?_
  refine pe_iconstv (n := 0) (v := 0) (by decide +kernel) (by decide +kernel) ?_
  refine pe_istore_n (j := 3) (ls' := [.ref 42, .ref 33, .int rq1, .int 0, pm_dead]) (by decide +kernel) (Nat.le_of_ble_eq_true rfl) rfl ?_
  refine CL_107_7 hX hI (fun y2 y3 u4 gy3 => ?_) 10 rq1 0 (pm_dead) (by decide +kernel) (by decide +kernel)
  refine pe_iload_n (j := 2) (by decide +kernel) rfl ?_
  exact pe_iret (by decide +kernel) rfl rfl ⟨y2, rfl, ⟨trivial, trivial⟩⟩
set_option maxRecDepth 100000 in
set_option maxHeartbeats 8000000 in
theorem CL_113_13 {X : pm_X} {d : Nat} {wr : pm_W} {Q : pm_R → Prop} {f : Nat → Int32} {A : Nat → List Int32} {R : Nat → Value} {x3 : Int32} (hX : XO X) (hI : CI f A R) (gx3 : (0 ≤ x3.toInt ∧ x3.toInt ≤ 8)) (k_61_0 : ∀ (y2 : Int32) (y4 : Int32), (0 ≤ y4.toInt ∧ y4.toInt ≤ 8) → x3.toInt ≤ y4.toInt → pmE pg X pg_tyl pg_cl (d + 1) 113 61 [.ref 42, .ref 33, .int y2, .int x3, .int y4] [] (cd f A R wr) Q) : ∀ (m : Nat) (x2 : Int32) (x4 : Int32), (0 ≤ x4.toInt ∧ x4.toInt ≤ 8) → 8 - x4.toInt < (m : Int) → pmE pg X pg_tyl pg_cl (d + 1) 113 13 [.ref 42, .ref 33, .int x2, .int x3, .int x4] [] (cd f A R wr) Q := by
  intro m
  induction m with
  | zero =>
    intro x2 x4 gx4 hm
    exfalso
    have l0 := zi_lo x4
    have u0 := zi_hi x4
    omega
  | succ m ih =>
    intro x2 x4 gx4 hm
    refine pe_iload (j := 4) (by decide +kernel) rfl ?_
    refine pe_iload_n (j := 3) (by decide +kernel) rfl ?_
    refine pz_icmp_ge (off := 45) (t := 61) (by decide +kernel) (by decide) rfl rfl rfl (fun h1 => ?_) (fun h1 => ?_)
    · skip
      exact k_61_0 x2 x4 (by omega) (by omega)
    · skip
      refine pe_iload_n (j := 2) (by decide +kernel) rfl ?_
      refine pe_aload_n (j := 1) (by decide +kernel) rfl ?_
      refine pe_get (j := 32) (ci := 7) (n := 3) (by decide +kernel) (by decide +kernel) cd_o33 rfl ?_
      refine pe_iload_n (j := 3) (by decide +kernel) rfl ?_
      refine pe_iload (j := 4) (by decide +kernel) rfl ?_
      refine pi_S (j := 35) (mj := 52) (by decide +kernel) (by decide +kernel) rfl ?_
      show pmE pg X pg_tyl pg_cl (d) 52 0 [.int x3, .int x4] [] (cd f A R wr) _
      refine pe_iload_n (j := 0) (by decide +kernel) rfl ?_
      refine pe_bipushv (n := 9) (v := 9) (by decide +kernel) (by decide +kernel) ?_
      refine pz_mul (by decide +kernel) rfl kz_9 (by omega) (by omega) (fun z2 hz2 => ?_)
      refine pe_iload_n (j := 1) (by decide +kernel) rfl ?_
      refine pz_add (by decide +kernel) hz2 rfl (by omega) (by omega) (fun z3 hz3 => ?_)
      clear hz2
      refine pe_iret (by decide +kernel) rfl rfl ⟨rfl, rfl, ?_⟩
      show pmE pg X pg_tyl pg_cl (d + 1) 113 30 [.ref 42, .ref 33, .int x2, .int x3, .int x4] [.int z3, .ref 39, .int x2] (cd f A R wr) _
      refine pz_iald (by decide +kernel) cd_a39 (cl_39 hI) hz3 (by omega) (by omega) (fun v4 ev4 => ?_)
      clear hz3
      have lw6 := zi_lo v4
      have uw6 := zi_hi v4
      refine pz_if_le (off := 21) (t := 52) (by decide +kernel) (by decide) rfl rfl (fun h5 => ?_) (fun h5 => ?_)
      · skip
        refine pe_iconstv (n := 0) (v := 0) (by decide +kernel) (by decide +kernel) ?_
        have lw8 := zi_lo x2
        have uw8 := zi_hi x2
        refine pz_add (by decide +kernel) rfl kz_0 (by omega) (by omega) (fun z7 hz7 => ?_)
        refine pe_istore_n (j := 2) (ls' := [.ref 42, .ref 33, .int z7, .int x3, .int x4]) (by decide +kernel) (Nat.le_of_ble_eq_true rfl) rfl ?_
        refine pz_iinc (j := 4) (n := 1) (by decide +kernel) rfl rfl (by decide +kernel) (by omega) (by omega) (fun z9 hz9 => ?_)
        show pmE pg X pg_tyl pg_cl (d + 1) 113 58 [.ref 42, .ref 33, .int z7, .int x3, .int z9] [] (cd f A R wr) _
        refine pe_goto (off := (-45)) (t := 13) (by decide +kernel) (by decide) rfl ?_
        exact ih z7 z9 (by omega) (by omega)
      · skip
        refine pe_aload_n (j := 1) (by decide +kernel) rfl ?_
        refine pe_get (j := 32) (ci := 7) (n := 3) (by decide +kernel) (by decide +kernel) cd_o33 rfl ?_
        refine pe_iload (j := 4) (by decide +kernel) rfl ?_
        refine pe_iload_n (j := 3) (by decide +kernel) rfl ?_
        refine pi_S (j := 35) (mj := 52) (by decide +kernel) (by decide +kernel) rfl ?_
        show pmE pg X pg_tyl pg_cl (d) 52 0 [.int x4, .int x3] [] (cd f A R wr) _
        refine pe_iload_n (j := 0) (by decide +kernel) rfl ?_
        refine pe_bipushv (n := 9) (v := 9) (by decide +kernel) (by decide +kernel) ?_
        refine pz_mul (by decide +kernel) rfl kz_9 (by omega) (by omega) (fun z10 hz10 => ?_)
        refine pe_iload_n (j := 1) (by decide +kernel) rfl ?_
        refine pz_add (by decide +kernel) hz10 rfl (by omega) (by omega) (fun z11 hz11 => ?_)
        clear hz10
        refine pe_iret (by decide +kernel) rfl rfl ⟨rfl, rfl, ?_⟩
        show pmE pg X pg_tyl pg_cl (d + 1) 113 44 [.ref 42, .ref 33, .int x2, .int x3, .int x4] [.int z11, .ref 39, .int x2] (cd f A R wr) _
        refine pz_iald (by decide +kernel) cd_a39 (cl_39 hI) hz11 (by omega) (by omega) (fun v12 ev12 => ?_)
        clear hz11
        have lw14 := zi_lo v12
        have uw14 := zi_hi v12
        refine pz_if_le (off := 7) (t := 52) (by decide +kernel) (by decide) rfl rfl (fun h13 => ?_) (fun h13 => ?_)
        · skip
          refine pe_iconstv (n := 0) (v := 0) (by decide +kernel) (by decide +kernel) ?_
          have lw16 := zi_lo x2
          have uw16 := zi_hi x2
          refine pz_add (by decide +kernel) rfl kz_0 (by omega) (by omega) (fun z15 hz15 => ?_)
          refine pe_istore_n (j := 2) (ls' := [.ref 42, .ref 33, .int z15, .int x3, .int x4]) (by decide +kernel) (Nat.le_of_ble_eq_true rfl) rfl ?_
          refine pz_iinc (j := 4) (n := 1) (by decide +kernel) rfl rfl (by decide +kernel) (by omega) (by omega) (fun z17 hz17 => ?_)
          show pmE pg X pg_tyl pg_cl (d + 1) 113 58 [.ref 42, .ref 33, .int z15, .int x3, .int z17] [] (cd f A R wr) _
          refine pe_goto (off := (-45)) (t := 13) (by decide +kernel) (by decide) rfl ?_
          exact ih z15 z17 (by omega) (by omega)
        · skip
          refine pe_iconstv (n := 1) (v := 1) (by decide +kernel) (by decide +kernel) ?_
          refine pe_goto (off := 4) (t := 53) (by decide +kernel) (by decide) rfl ?_
          refine pw_add (by decide +kernel) (fun z18 => ?_)
          refine pe_istore_n (j := 2) (ls' := [.ref 42, .ref 33, .int z18, .int x3, .int x4]) (by decide +kernel) (Nat.le_of_ble_eq_true rfl) rfl ?_
          refine pz_iinc (j := 4) (n := 1) (by decide +kernel) rfl rfl (by decide +kernel) (by omega) (by omega) (fun z19 hz19 => ?_)
          show pmE pg X pg_tyl pg_cl (d + 1) 113 58 [.ref 42, .ref 33, .int z18, .int x3, .int z19] [] (cd f A R wr) _
          refine pe_goto (off := (-45)) (t := 13) (by decide +kernel) (by decide) rfl ?_
          exact ih z18 z19 (by omega) (by omega)
set_option maxRecDepth 100000 in
set_option maxHeartbeats 8000000 in
theorem CL_113_4 {X : pm_X} {d : Nat} {wr : pm_W} {Q : pm_R → Prop} {f : Nat → Int32} {A : Nat → List Int32} {R : Nat → Value} (hX : XO X) (hI : CI f A R) (k_67_0 : ∀ (y2 : Int32) (y3 : Int32) (v4 : Value), (9 ≤ y3.toInt ∧ y3.toInt ≤ 9) → pmE pg X pg_tyl pg_cl (d + 1) 113 67 [.ref 42, .ref 33, .int y2, .int y3, v4] [] (cd f A R wr) Q) : ∀ (m : Nat) (x2 : Int32) (x3 : Int32) (u4 : Value), (0 ≤ x3.toInt ∧ x3.toInt ≤ 9) → 9 - x3.toInt < (m : Int) → pmE pg X pg_tyl pg_cl (d + 1) 113 4 [.ref 42, .ref 33, .int x2, .int x3, u4] [] (cd f A R wr) Q := by
  intro m
  induction m with
  | zero =>
    intro x2 x3 u4 gx3 hm
    exfalso
    have l0 := zi_lo x3
    have u0 := zi_hi x3
    omega
  | succ m ih =>
    intro x2 x3 u4 gx3 hm
    refine pe_iload_n (j := 3) (by decide +kernel) rfl ?_
    refine pe_bipushv (n := 9) (v := 9) (by decide +kernel) (by decide +kernel) ?_
    refine pz_icmp_ge (off := 60) (t := 67) (by decide +kernel) (by decide) rfl rfl kz_9 (fun h1 => ?_) (fun h1 => ?_)
    · skip
      exact k_67_0 x2 x3 (u4) (by omega)
    · skip
      refine pe_iconstv (n := 0) (v := 0) (by decide +kernel) (by decide +kernel) ?_
      refine pe_istore (j := 4) (ls' := [.ref 42, .ref 33, .int x2, .int x3, .int 0]) (by decide +kernel) (Nat.le_of_ble_eq_true rfl) rfl ?_
      refine CL_113_13 hX hI (by omega) (fun y2 y3 gy3 hr4 => ?_) 9 x2 0 (by decide +kernel) (by decide +kernel)
      refine pz_iinc (j := 3) (n := 1) (by decide +kernel) rfl rfl (by decide +kernel) (by omega) (by omega) (fun z5 hz5 => ?_)
      show pmE pg X pg_tyl pg_cl (d + 1) 113 64 [.ref 42, .ref 33, .int y2, .int z5, .int y3] [] (cd f A R wr) _
      refine pe_goto (off := (-60)) (t := 4) (by decide +kernel) (by decide) rfl ?_
      exact ih y2 z5 (.int y3) (by omega) (by omega)
set_option maxRecDepth 100000 in
set_option maxHeartbeats 8000000 in
theorem CM_113 {X : pm_X} {d : Nat} {wr : pm_W} {f : Nat → Int32} {A : Nat → List Int32} {R : Nat → Value} (hX : XO X) (hI : CI f A R) : pmE pg X pg_tyl pg_cl (d + 1) 113 0 (pm_ent (pm_max pg 113) [.ref 42, .ref 33]) [] (cd f A R wr) (fun q => ∃ (r : Int32), q = (some (.int r), cd f A R wr, 0, 0) ∧ ((True ∧ True))) := by
  show pmE pg X pg_tyl pg_cl (d + 1) 113 0 [.ref 42, .ref 33, pm_dead, pm_dead, pm_dead] [] (cd f A R wr) _
  refine pe_iconstv (n := 0) (v := 0) (by decide +kernel) (by decide +kernel) ?_
  refine pe_istore_n (j := 2) (ls' := [.ref 42, .ref 33, .int 0, pm_dead, pm_dead]) (by decide +kernel) (Nat.le_of_ble_eq_true rfl) rfl ?_
  refine pe_iconstv (n := 0) (v := 0) (by decide +kernel) (by decide +kernel) ?_
  refine pe_istore_n (j := 3) (ls' := [.ref 42, .ref 33, .int 0, .int 0, pm_dead]) (by decide +kernel) (Nat.le_of_ble_eq_true rfl) rfl ?_
  refine CL_113_4 hX hI (fun y1 y2 u3 gy2 => ?_) 10 0 0 (pm_dead) (by decide +kernel) (by decide +kernel)
  refine pe_iload_n (j := 2) (by decide +kernel) rfl ?_
  exact pe_iret (by decide +kernel) rfl rfl ⟨y1, rfl, ⟨trivial, trivial⟩⟩
set_option maxRecDepth 100000 in
set_option maxHeartbeats 8000000 in
theorem CL_115_5 {X : pm_X} {d : Nat} {wr : pm_W} {Q : pm_R → Prop} {f : Nat → Int32} {A : Nat → List Int32} {R : Nat → Value} {x2 : Int32} {v : Nat} (hX : XO X) (hI : CI f A R) (hv : VV v) (hR0 : R 0 = .ref v) (gx2 : (0 ≤ x2.toInt ∧ x2.toInt ≤ 8)) (k_64_0 : ∀ (y3 : Int32) (y4 : Int32) (v5 : Value), (0 ≤ y4.toInt ∧ y4.toInt ≤ 9) → pmE pg X pg_tyl pg_cl (d + 1) 115 64 [.ref 42, .ref 33, .int x2, .int y3, .int y4, v5] [] (cd f A R wr) Q) : ∀ (m : Nat) (x3 : Int32) (x4 : Int32) (u5 : Value), (0 ≤ x4.toInt ∧ x4.toInt ≤ 9) → 9 - x4.toInt < (m : Int) → pmE pg X pg_tyl pg_cl (d + 1) 115 5 [.ref 42, .ref 33, .int x2, .int x3, .int x4, u5] [] (cd f A R wr) Q := by
  have bv := VV_b hv
  intro m
  induction m with
  | zero =>
    intro x3 x4 u5 gx4 hm
    exfalso
    have l0 := zi_lo x4
    have u0 := zi_hi x4
    omega
  | succ m ih =>
    intro x3 x4 u5 gx4 hm
    refine pe_iload (j := 4) (by decide +kernel) rfl ?_
    refine pe_aload_n (j := 1) (by decide +kernel) rfl ?_
    refine pe_get (j := 44) (ci := 7) (n := 0) (by decide +kernel) (by decide +kernel) cd_o33 rfl ?_
    refine pe_topV (v := .ref v) (hR0) ?_
    refine pe_get (j := 48) (ci := 9) (n := 0) (by decide +kernel) (by decide +kernel) (cv_o hv) rfl ?_
    have hr_f_16v := cv_people hv hI
    refine pz_icmp_ge (off := 50) (t := 64) (by decide +kernel) (by decide) rfl rfl rfl (fun h1 => ?_) (fun h1 => ?_)
    · skip
      exact k_64_0 x3 x4 (u5) (by omega)
    · skip
      refine pe_aload_n (j := 1) (by decide +kernel) rfl ?_
      refine pe_get (j := 32) (ci := 7) (n := 3) (by decide +kernel) (by decide +kernel) cd_o33 rfl ?_
      refine pe_iload_n (j := 2) (by decide +kernel) rfl ?_
      refine pe_iload (j := 4) (by decide +kernel) rfl ?_
      refine pi_S (j := 35) (mj := 52) (by decide +kernel) (by decide +kernel) rfl ?_
      show pmE pg X pg_tyl pg_cl (d) 52 0 [.int x2, .int x4] [] (cd f A R wr) _
      refine pe_iload_n (j := 0) (by decide +kernel) rfl ?_
      refine pe_bipushv (n := 9) (v := 9) (by decide +kernel) (by decide +kernel) ?_
      refine pz_mul (by decide +kernel) rfl kz_9 (by omega) (by omega) (fun z2 hz2 => ?_)
      refine pe_iload_n (j := 1) (by decide +kernel) rfl ?_
      refine pz_add (by decide +kernel) hz2 rfl (by omega) (by omega) (fun z3 hz3 => ?_)
      clear hz2
      refine pe_iret (by decide +kernel) rfl rfl ⟨rfl, rfl, ?_⟩
      show pmE pg X pg_tyl pg_cl (d + 1) 115 27 [.ref 42, .ref 33, .int x2, .int x3, .int x4, u5] [.int z3, .ref 39] (cd f A R wr) _
      refine pz_iald (by decide +kernel) cd_a39 (cl_39 hI) hz3 (by omega) (by omega) (fun v4 ev4 => ?_)
      clear hz3
      refine pe_aload_n (j := 1) (by decide +kernel) rfl ?_
      refine pe_get (j := 32) (ci := 7) (n := 3) (by decide +kernel) (by decide +kernel) cd_o33 rfl ?_
      refine pe_iload (j := 4) (by decide +kernel) rfl ?_
      refine pe_iload_n (j := 2) (by decide +kernel) rfl ?_
      refine pi_S (j := 35) (mj := 52) (by decide +kernel) (by decide +kernel) rfl ?_
      show pmE pg X pg_tyl pg_cl (d) 52 0 [.int x4, .int x2] [] (cd f A R wr) _
      refine pe_iload_n (j := 0) (by decide +kernel) rfl ?_
      refine pe_bipushv (n := 9) (v := 9) (by decide +kernel) (by decide +kernel) ?_
      refine pz_mul (by decide +kernel) rfl kz_9 (by omega) (by omega) (fun z5 hz5 => ?_)
      refine pe_iload_n (j := 1) (by decide +kernel) rfl ?_
      refine pz_add (by decide +kernel) hz5 rfl (by omega) (by omega) (fun z6 hz6 => ?_)
      clear hz5
      refine pe_iret (by decide +kernel) rfl rfl ⟨rfl, rfl, ?_⟩
      show pmE pg X pg_tyl pg_cl (d + 1) 115 38 [.ref 42, .ref 33, .int x2, .int x3, .int x4, u5] [.int z6, .ref 39, .int v4] (cd f A R wr) _
      refine pz_iald (by decide +kernel) cd_a39 (cl_39 hI) hz6 (by omega) (by omega) (fun v7 ev7 => ?_)
      clear hz6
      refine pw_add (by decide +kernel) (fun z8 => ?_)
      refine pe_istore (j := 5) (ls' := [.ref 42, .ref 33, .int x2, .int x3, .int x4, .int z8]) (by decide +kernel) (Nat.le_of_ble_eq_true rfl) rfl ?_
      refine pe_iload_n (j := 3) (by decide +kernel) rfl ?_
      refine pe_iload (j := 5) (by decide +kernel) rfl ?_
      have lw10 := zi_lo z8
      have uw10 := zi_hi z8
      refine pz_if_le (off := 10) (t := 55) (by decide +kernel) (by decide) rfl rfl (fun h9 => ?_) (fun h9 => ?_)
      · skip
        refine pe_iconstv (n := 0) (v := 0) (by decide +kernel) (by decide +kernel) ?_
        refine pw_or (by decide +kernel) (fun z11 => ?_)
        refine pe_istore_n (j := 3) (ls' := [.ref 42, .ref 33, .int x2, .int z11, .int x4, .int z8]) (by decide +kernel) (Nat.le_of_ble_eq_true rfl) rfl ?_
        refine pz_iinc (j := 4) (n := 1) (by decide +kernel) rfl rfl (by decide +kernel) (by omega) (by omega) (fun z12 hz12 => ?_)
        show pmE pg X pg_tyl pg_cl (d + 1) 115 61 [.ref 42, .ref 33, .int x2, .int z11, .int z12, .int z8] [] (cd f A R wr) _
        refine pe_goto (off := (-56)) (t := 5) (by decide +kernel) (by decide) rfl ?_
        exact ih z11 z12 (.int z8) (by omega) (by omega)
      · skip
        refine pe_iconstv (n := 1) (v := 1) (by decide +kernel) (by decide +kernel) ?_
        refine pe_iload (j := 4) (by decide +kernel) rfl ?_
        refine pz_shl1 (by decide +kernel) rfl (by omega) (by omega) (fun z13 hz13 => ?_)
        refine pe_goto (off := 4) (t := 56) (by decide +kernel) (by decide) rfl ?_
        refine pw_or (by decide +kernel) (fun z14 => ?_)
        refine pe_istore_n (j := 3) (ls' := [.ref 42, .ref 33, .int x2, .int z14, .int x4, .int z8]) (by decide +kernel) (Nat.le_of_ble_eq_true rfl) rfl ?_
        refine pz_iinc (j := 4) (n := 1) (by decide +kernel) rfl rfl (by decide +kernel) (by omega) (by omega) (fun z15 hz15 => ?_)
        show pmE pg X pg_tyl pg_cl (d + 1) 115 61 [.ref 42, .ref 33, .int x2, .int z14, .int z15, .int z8] [] (cd f A R wr) _
        refine pe_goto (off := (-56)) (t := 5) (by decide +kernel) (by decide) rfl ?_
        exact ih z14 z15 (.int z8) (by omega) (by omega)
set_option maxRecDepth 100000 in
set_option maxHeartbeats 8000000 in
theorem CM_115 {X : pm_X} {d : Nat} {wr : pm_W} {f : Nat → Int32} {A : Nat → List Int32} {R : Nat → Value} {x2 : Int32} {v : Nat} (hX : XO X) (hI : CI f A R) (hv : VV v) (hR0 : R 0 = .ref v) (gx2 : (0 ≤ x2.toInt ∧ x2.toInt ≤ 8)) : pmE pg X pg_tyl pg_cl (d + 1) 115 0 (pm_ent (pm_max pg 115) [.ref 42, .ref 33, .int x2]) [] (cd f A R wr) (fun q => ∃ (r : Int32), q = (some (.int r), cd f A R wr, 0, 0) ∧ ((True ∧ True))) := by
  have bv := VV_b hv
  show pmE pg X pg_tyl pg_cl (d + 1) 115 0 [.ref 42, .ref 33, .int x2, pm_dead, pm_dead, pm_dead] [] (cd f A R wr) _
  refine pe_iconstv (n := 0) (v := 0) (by decide +kernel) (by decide +kernel) ?_
  refine pe_istore_n (j := 3) (ls' := [.ref 42, .ref 33, .int x2, .int 0, pm_dead, pm_dead]) (by decide +kernel) (Nat.le_of_ble_eq_true rfl) rfl ?_
  refine pe_iconstv (n := 0) (v := 0) (by decide +kernel) (by decide +kernel) ?_
  refine pe_istore (j := 4) (ls' := [.ref 42, .ref 33, .int x2, .int 0, .int 0, pm_dead]) (by decide +kernel) (Nat.le_of_ble_eq_true rfl) rfl ?_
  refine CL_115_5 hX hI hv (hR0) (by omega) (fun y1 y2 u3 gy2 => ?_) 10 0 0 (pm_dead) (by decide +kernel) (by decide +kernel)
  refine pe_iload_n (j := 3) (by decide +kernel) rfl ?_
  exact pe_iret (by decide +kernel) rfl rfl ⟨y1, rfl, ⟨trivial, trivial⟩⟩
set_option maxRecDepth 100000 in
set_option maxHeartbeats 8000000 in
theorem CL_114_4 {X : pm_X} {d : Nat} {wr : pm_W} {Q : pm_R → Prop} {f : Nat → Int32} {A : Nat → List Int32} {R : Nat → Value} {v : Nat} (hX : XO X) (hI : CI f A R) (hv : VV v) (hR0 : R 0 = .ref v) (k_40_0 : ∀ (y2 : Int32) (y3 : Int32), (0 ≤ y3.toInt ∧ y3.toInt ≤ 9) → pmE pg X pg_tyl pg_cl (d + 2) 114 40 [.ref 42, .ref 33, .int y2, .int y3] [] (cd f A R wr) Q) : ∀ (m : Nat) (x2 : Int32) (x3 : Int32), (0 ≤ x3.toInt ∧ x3.toInt ≤ 9) → 9 - x3.toInt < (m : Int) → pmE pg X pg_tyl pg_cl (d + 2) 114 4 [.ref 42, .ref 33, .int x2, .int x3] [] (cd f A R wr) Q := by
  have bv := VV_b hv
  intro m
  induction m with
  | zero =>
    intro x2 x3 gx3 hm
    exfalso
    have l0 := zi_lo x3
    have u0 := zi_hi x3
    omega
  | succ m ih =>
    intro x2 x3 gx3 hm
    refine pe_iload_n (j := 3) (by decide +kernel) rfl ?_
    refine pe_aload_n (j := 1) (by decide +kernel) rfl ?_
    refine pe_get (j := 44) (ci := 7) (n := 0) (by decide +kernel) (by decide +kernel) cd_o33 rfl ?_
    refine pe_topV (v := .ref v) (hR0) ?_
    refine pe_get (j := 48) (ci := 9) (n := 0) (by decide +kernel) (by decide +kernel) (cv_o hv) rfl ?_
    have hr_f_16v := cv_people hv hI
    refine pz_icmp_ge (off := 28) (t := 40) (by decide +kernel) (by decide) rfl rfl rfl (fun h1 => ?_) (fun h1 => ?_)
    · skip
      exact k_40_0 x2 x3 (by omega)
    · skip
      refine pe_iload_n (j := 2) (by decide +kernel) rfl ?_
      refine pe_aload_n (j := 0) (by decide +kernel) rfl ?_
      refine pe_aload_n (j := 1) (by decide +kernel) rfl ?_
      refine pe_iload_n (j := 3) (by decide +kernel) rfl ?_
      refine pz_callV (j := 54) (mj := 115) (by decide +kernel) (cll_V (args := [.int x3, .ref 33]) (n := 2) (by decide +kernel) rfl rfl cd_o42 (by decide +kernel) (Nat.le_of_ble_eq_true rfl) (Nat.le_of_ble_eq_true rfl)) (CM_115 hX hI hv (hR0) (by omega)) (fun q2a q2b q2c q2d hqq2 => ?_)
      obtain ⟨rq2, eq2, kq2⟩ := hqq2
      cases eq2
      refine ⟨rfl, rfl, ?_⟩
      show pmE pg X pg_tyl pg_cl (d + 2) 114 22 [.ref 42, .ref 33, .int x2, .int x3] [.int rq2, .int x2] (cd f A R wr) _
      have lw4 := zi_lo rq2
      have uw4 := zi_hi rq2
      refine pz_if_ne (off := 9) (t := 31) (by decide +kernel) (by decide) rfl rfl (fun h3 => ?_) (fun h3 => ?_)
      · skip
        refine pe_iconstv (n := 0) (v := 0) (by decide +kernel) (by decide +kernel) ?_
        refine pw_or (by decide +kernel) (fun z5 => ?_)
        refine pe_istore_n (j := 2) (ls' := [.ref 42, .ref 33, .int z5, .int x3]) (by decide +kernel) (Nat.le_of_ble_eq_true rfl) rfl ?_
        refine pz_iinc (j := 3) (n := 1) (by decide +kernel) rfl rfl (by decide +kernel) (by omega) (by omega) (fun z6 hz6 => ?_)
        show pmE pg X pg_tyl pg_cl (d + 2) 114 37 [.ref 42, .ref 33, .int z5, .int z6] [] (cd f A R wr) _
        refine pe_goto (off := (-33)) (t := 4) (by decide +kernel) (by decide) rfl ?_
        exact ih z5 z6 (by omega) (by omega)
      · skip
        refine pe_iconstv (n := 1) (v := 1) (by decide +kernel) (by decide +kernel) ?_
        refine pe_iload_n (j := 3) (by decide +kernel) rfl ?_
        refine pz_shl1 (by decide +kernel) rfl (by omega) (by omega) (fun z7 hz7 => ?_)
        refine pe_goto (off := 4) (t := 32) (by decide +kernel) (by decide) rfl ?_
        refine pw_or (by decide +kernel) (fun z8 => ?_)
        refine pe_istore_n (j := 2) (ls' := [.ref 42, .ref 33, .int z8, .int x3]) (by decide +kernel) (Nat.le_of_ble_eq_true rfl) rfl ?_
        refine pz_iinc (j := 3) (n := 1) (by decide +kernel) rfl rfl (by decide +kernel) (by omega) (by omega) (fun z9 hz9 => ?_)
        show pmE pg X pg_tyl pg_cl (d + 2) 114 37 [.ref 42, .ref 33, .int z8, .int z9] [] (cd f A R wr) _
        refine pe_goto (off := (-33)) (t := 4) (by decide +kernel) (by decide) rfl ?_
        exact ih z8 z9 (by omega) (by omega)
set_option maxRecDepth 100000 in
set_option maxHeartbeats 8000000 in
theorem CM_114 {X : pm_X} {d : Nat} {wr : pm_W} {f : Nat → Int32} {A : Nat → List Int32} {R : Nat → Value} {v : Nat} (hX : XO X) (hI : CI f A R) (hv : VV v) (hR0 : R 0 = .ref v) : pmE pg X pg_tyl pg_cl (d + 2) 114 0 (pm_ent (pm_max pg 114) [.ref 42, .ref 33]) [] (cd f A R wr) (fun q => ∃ (r : Int32), q = (some (.int r), cd f A R wr, 0, 0) ∧ ((True ∧ True))) := by
  have bv := VV_b hv
  show pmE pg X pg_tyl pg_cl (d + 2) 114 0 [.ref 42, .ref 33, pm_dead, pm_dead] [] (cd f A R wr) _
  refine pe_iconstv (n := 0) (v := 0) (by decide +kernel) (by decide +kernel) ?_
  refine pe_istore_n (j := 2) (ls' := [.ref 42, .ref 33, .int 0, pm_dead]) (by decide +kernel) (Nat.le_of_ble_eq_true rfl) rfl ?_
  refine pe_iconstv (n := 0) (v := 0) (by decide +kernel) (by decide +kernel) ?_
  refine pe_istore_n (j := 3) (ls' := [.ref 42, .ref 33, .int 0, .int 0]) (by decide +kernel) (Nat.le_of_ble_eq_true rfl) rfl ?_
  refine CL_114_4 hX hI hv (hR0) (fun y1 y2 gy2 => ?_) 10 0 0 (by decide +kernel) (by decide +kernel)
  refine pe_iload_n (j := 2) (by decide +kernel) rfl ?_
  exact pe_iret (by decide +kernel) rfl rfl ⟨y1, rfl, ⟨trivial, trivial⟩⟩
set_option maxRecDepth 100000 in
set_option maxHeartbeats 8000000 in
theorem CL_117_25 {X : pm_X} {d : Nat} {wr : pm_W} {Q : pm_R → Prop} {f : Nat → Int32} {A : Nat → List Int32} {R : Nat → Value} {x2 x3 x4 : Int32} {v : Nat} (hX : XO X) (hI : CI f A R) (hv : VV v) (hR0 : R 0 = .ref v) (gx2 : (0 ≤ x2.toInt ∧ x2.toInt ≤ 8)) (gx4 : (0 ≤ x4.toInt ∧ x4.toInt ≤ 8)) (k_68_0 : ∀ (y5 : Int32) (y6 : Int32), (0 ≤ y6.toInt ∧ y6.toInt ≤ 9) → pmE pg X pg_tyl pg_cl (d + 2) 117 68 [.ref 42, .ref 33, .int x2, .int x3, .int x4, .int y5, .int y6] [] (cd f A R wr) Q) : ∀ (m : Nat) (x5 : Int32) (x6 : Int32), (0 ≤ x6.toInt ∧ x6.toInt ≤ 9) → 9 - x6.toInt < (m : Int) → pmE pg X pg_tyl pg_cl (d + 2) 117 25 [.ref 42, .ref 33, .int x2, .int x3, .int x4, .int x5, .int x6] [] (cd f A R wr) Q := by
  have bv := VV_b hv
  intro m
  induction m with
  | zero =>
    intro x5 x6 gx6 hm
    exfalso
    have l0 := zi_lo x6
    have u0 := zi_hi x6
    omega
  | succ m ih =>
    intro x5 x6 gx6 hm
    refine pe_iload (j := 6) (by decide +kernel) rfl ?_
    refine pe_aload_n (j := 1) (by decide +kernel) rfl ?_
    refine pe_get (j := 44) (ci := 7) (n := 0) (by decide +kernel) (by decide +kernel) cd_o33 rfl ?_
    refine pe_topV (v := .ref v) (hR0) ?_
    refine pe_get (j := 48) (ci := 9) (n := 0) (by decide +kernel) (by decide +kernel) (cv_o hv) rfl ?_
    have hr_f_16v := cv_people hv hI
    refine pz_icmp_ge (off := 34) (t := 68) (by decide +kernel) (by decide) rfl rfl rfl (fun h1 => ?_) (fun h1 => ?_)
    · skip
      exact k_68_0 x5 x6 (by omega)
    · skip
      refine pe_iload (j := 5) (by decide +kernel) rfl ?_
      refine pe_iload_n (j := 3) (by decide +kernel) rfl ?_
      refine pe_iload (j := 6) (by decide +kernel) rfl ?_
      refine pi_S (j := 62) (mj := 89) (by decide +kernel) (by decide +kernel) rfl ?_
      show pmE pg X pg_tyl pg_cl (d + 1) 89 0 [.int x3, .int x6] [] (cd f A R wr) _
      refine pe_iload_n (j := 0) (by decide +kernel) rfl ?_
      refine pe_iload_n (j := 1) (by decide +kernel) rfl ?_
      refine pw_shr (by decide +kernel) (fun z2 => ?_)
      refine pe_iconstv (n := 1) (v := 1) (by decide +kernel) (by decide +kernel) ?_
      refine pz_and1 (by decide +kernel) (fun z3 hz3 => ?_)
      refine pz_if_eq (off := 7) (t := 12) (by decide +kernel) (by decide) rfl rfl (fun h4 => ?_) (fun h4 => ?_)
      · skip
        refine pe_iconstv (n := 0) (v := 0) (by decide +kernel) (by decide +kernel) ?_
        refine pe_iret (by decide +kernel) rfl rfl ⟨rfl, rfl, ?_⟩
        show pmE pg X pg_tyl pg_cl (d + 2) 117 45 [.ref 42, .ref 33, .int x2, .int x3, .int x4, .int x5, .int x6] [.int 0, .int x5] (cd f A R wr) _
        refine pz_if_eq (off := 13) (t := 58) (by decide +kernel) (by decide) rfl kz_0 (fun h5 => ?_) (fun h5 => by omega)
        refine pe_iconstv (n := 0) (v := 0) (by decide +kernel) (by decide +kernel) ?_
        refine pw_or (by decide +kernel) (fun z6 => ?_)
        refine pe_istore (j := 5) (ls' := [.ref 42, .ref 33, .int x2, .int x3, .int x4, .int z6, .int x6]) (by decide +kernel) (Nat.le_of_ble_eq_true rfl) rfl ?_
        refine pz_iinc (j := 6) (n := 1) (by decide +kernel) rfl rfl (by decide +kernel) (by omega) (by omega) (fun z7 hz7 => ?_)
        show pmE pg X pg_tyl pg_cl (d + 2) 117 65 [.ref 42, .ref 33, .int x2, .int x3, .int x4, .int z6, .int z7] [] (cd f A R wr) _
        refine pe_goto (off := (-40)) (t := 25) (by decide +kernel) (by decide) rfl ?_
        exact ih z6 z7 (by omega) (by omega)
      · skip
        refine pe_iconstv (n := 1) (v := 1) (by decide +kernel) (by decide +kernel) ?_
        refine pe_goto (off := 4) (t := 13) (by decide +kernel) (by decide) rfl ?_
        refine pe_iret (by decide +kernel) rfl rfl ⟨rfl, rfl, ?_⟩
        show pmE pg X pg_tyl pg_cl (d + 2) 117 45 [.ref 42, .ref 33, .int x2, .int x3, .int x4, .int x5, .int x6] [.int 1, .int x5] (cd f A R wr) _
        refine pz_if_eq (off := 13) (t := 58) (by decide +kernel) (by decide) rfl kz_1 (fun h8 => by omega) (fun h8 => ?_)
        refine pe_aload_n (j := 0) (by decide +kernel) rfl ?_
        refine pe_aload_n (j := 1) (by decide +kernel) rfl ?_
        refine pe_iload (j := 6) (by decide +kernel) rfl ?_
        refine pz_callV (j := 54) (mj := 115) (by decide +kernel) (cll_V (args := [.int x6, .ref 33]) (n := 2) (by decide +kernel) rfl rfl cd_o42 (by decide +kernel) (Nat.le_of_ble_eq_true rfl) (Nat.le_of_ble_eq_true rfl)) (CM_115 hX hI hv (hR0) (by omega)) (fun q9a q9b q9c q9d hqq9 => ?_)
        obtain ⟨rq9, eq9, kq9⟩ := hqq9
        cases eq9
        refine ⟨rfl, rfl, ?_⟩
        show pmE pg X pg_tyl pg_cl (d + 2) 117 55 [.ref 42, .ref 33, .int x2, .int x3, .int x4, .int x5, .int x6] [.int rq9, .int x5] (cd f A R wr) _
        refine pe_goto (off := 4) (t := 59) (by decide +kernel) (by decide) rfl ?_
        refine pw_or (by decide +kernel) (fun z10 => ?_)
        refine pe_istore (j := 5) (ls' := [.ref 42, .ref 33, .int x2, .int x3, .int x4, .int z10, .int x6]) (by decide +kernel) (Nat.le_of_ble_eq_true rfl) rfl ?_
        refine pz_iinc (j := 6) (n := 1) (by decide +kernel) rfl rfl (by decide +kernel) (by omega) (by omega) (fun z11 hz11 => ?_)
        show pmE pg X pg_tyl pg_cl (d + 2) 117 65 [.ref 42, .ref 33, .int x2, .int x3, .int x4, .int z10, .int z11] [] (cd f A R wr) _
        refine pe_goto (off := (-40)) (t := 25) (by decide +kernel) (by decide) rfl ?_
        exact ih z10 z11 (by omega) (by omega)
set_option maxRecDepth 100000 in
set_option maxHeartbeats 8000000 in
theorem CL_117_7 {X : pm_X} {d : Nat} {wr : pm_W} {Q : pm_R → Prop} {f : Nat → Int32} {A : Nat → List Int32} {R : Nat → Value} {x2 : Int32} {v : Nat} (hX : XO X) (hI : CI f A R) (hv : VV v) (hR0 : R 0 = .ref v) (gx2 : (0 ≤ x2.toInt ∧ x2.toInt ≤ 8)) (k_77_0 : ∀ (y3 : Int32) (y4 : Int32) (v5 : Value) (v6 : Value), (0 ≤ y4.toInt ∧ y4.toInt ≤ 9) → pmE pg X pg_tyl pg_cl (d + 2) 117 77 [.ref 42, .ref 33, .int x2, .int y3, .int y4, v5, v6] [] (cd f A R wr) Q) : ∀ (m : Nat) (x3 : Int32) (x4 : Int32) (u5 : Value) (u6 : Value), (0 ≤ x4.toInt ∧ x4.toInt ≤ 9) → 9 - x4.toInt < (m : Int) → pmE pg X pg_tyl pg_cl (d + 2) 117 7 [.ref 42, .ref 33, .int x2, .int x3, .int x4, u5, u6] [] (cd f A R wr) Q := by
  have bv := VV_b hv
  intro m
  induction m with
  | zero =>
    intro x3 x4 u5 u6 gx4 hm
    exfalso
    have l0 := zi_lo x4
    have u0 := zi_hi x4
    omega
  | succ m ih =>
    intro x3 x4 u5 u6 gx4 hm
    refine pe_iload (j := 4) (by decide +kernel) rfl ?_
    refine pe_aload_n (j := 1) (by decide +kernel) rfl ?_
    refine pe_get (j := 44) (ci := 7) (n := 0) (by decide +kernel) (by decide +kernel) cd_o33 rfl ?_
    refine pe_topV (v := .ref v) (hR0) ?_
    refine pe_get (j := 48) (ci := 9) (n := 0) (by decide +kernel) (by decide +kernel) (cv_o hv) rfl ?_
    have hr_f_16v := cv_people hv hI
    refine pz_icmp_ge (off := 61) (t := 77) (by decide +kernel) (by decide) rfl rfl rfl (fun h1 => ?_) (fun h1 => ?_)
    · skip
      exact k_77_0 x3 x4 (u5) (u6) (by omega)
    · skip
      refine pe_iload_n (j := 3) (by decide +kernel) rfl ?_
      refine pe_istore (j := 5) (ls' := [.ref 42, .ref 33, .int x2, .int x3, .int x4, .int x3, u6]) (by decide +kernel) (Nat.le_of_ble_eq_true rfl) rfl ?_
      refine pe_iconstv (n := 0) (v := 0) (by decide +kernel) (by decide +kernel) ?_
      refine pe_istore (j := 6) (ls' := [.ref 42, .ref 33, .int x2, .int x3, .int x4, .int x3, .int 0]) (by decide +kernel) (Nat.le_of_ble_eq_true rfl) rfl ?_
      refine CL_117_25 hX hI hv (hR0) (by omega) (by omega) (fun y2 y3 gy3 => ?_) 10 x3 0 (by decide +kernel) (by decide +kernel)
      refine pe_iload (j := 5) (by decide +kernel) rfl ?_
      refine pe_istore_n (j := 3) (ls' := [.ref 42, .ref 33, .int x2, .int y2, .int x4, .int y2, .int y3]) (by decide +kernel) (Nat.le_of_ble_eq_true rfl) rfl ?_
      refine pz_iinc (j := 4) (n := 1) (by decide +kernel) rfl rfl (by decide +kernel) (by omega) (by omega) (fun z4 hz4 => ?_)
      show pmE pg X pg_tyl pg_cl (d + 2) 117 74 [.ref 42, .ref 33, .int x2, .int y2, .int z4, .int y2, .int y3] [] (cd f A R wr) _
      refine pe_goto (off := (-67)) (t := 7) (by decide +kernel) (by decide) rfl ?_
      exact ih y2 z4 (.int y2) (.int y3) (by omega) (by omega)
set_option maxRecDepth 100000 in
set_option maxHeartbeats 8000000 in
theorem CM_117 {X : pm_X} {d : Nat} {wr : pm_W} {f : Nat → Int32} {A : Nat → List Int32} {R : Nat → Value} {x2 : Int32} {v : Nat} (hX : XO X) (hI : CI f A R) (hv : VV v) (hR0 : R 0 = .ref v) (gx2 : (0 ≤ x2.toInt ∧ x2.toInt ≤ 8)) : pmE pg X pg_tyl pg_cl (d + 2) 117 0 (pm_ent (pm_max pg 117) [.ref 42, .ref 33, .int x2]) [] (cd f A R wr) (fun q => ∃ (r : Int32), q = (some (.int r), cd f A R wr, 0, 0) ∧ ((True ∧ True))) := by
  have bv := VV_b hv
  show pmE pg X pg_tyl pg_cl (d + 2) 117 0 [.ref 42, .ref 33, .int x2, pm_dead, pm_dead, pm_dead, pm_dead] [] (cd f A R wr) _
  refine pe_iconstv (n := 1) (v := 1) (by decide +kernel) (by decide +kernel) ?_
  refine pe_iload_n (j := 2) (by decide +kernel) rfl ?_
  refine pz_shl1 (by decide +kernel) rfl (by omega) (by omega) (fun z1 hz1 => ?_)
  refine pe_istore_n (j := 3) (ls' := [.ref 42, .ref 33, .int x2, .int z1, pm_dead, pm_dead, pm_dead]) (by decide +kernel) (Nat.le_of_ble_eq_true rfl) rfl ?_
  refine pe_iconstv (n := 0) (v := 0) (by decide +kernel) (by decide +kernel) ?_
  refine pe_istore (j := 4) (ls' := [.ref 42, .ref 33, .int x2, .int z1, .int 0, pm_dead, pm_dead]) (by decide +kernel) (Nat.le_of_ble_eq_true rfl) rfl ?_
  refine CL_117_7 hX hI hv (hR0) (by omega) (fun y2 y3 u4 u5 gy3 => ?_) 10 z1 0 (pm_dead) (pm_dead) (by decide +kernel) (by decide +kernel)
  refine pe_iload_n (j := 3) (by decide +kernel) rfl ?_
  exact pe_iret (by decide +kernel) rfl rfl ⟨y2, rfl, ⟨trivial, trivial⟩⟩
set_option maxRecDepth 100000 in
set_option maxHeartbeats 8000000 in
theorem CL_116_11 {X : pm_X} {d : Nat} {wr : pm_W} {Q : pm_R → Prop} {f : Nat → Int32} {A : Nat → List Int32} {R : Nat → Value} {v : Nat} (hX : XO X) (hI : CI f A R) (hv : VV v) (hR0 : R 0 = .ref v) (k_51_0 : ∀ (y2 : Int32) (y3 : Int32) (y4 : Int32), (0 ≤ y4.toInt ∧ y4.toInt ≤ 9) → pmE pg X pg_tyl pg_cl (d + 3) 116 51 [.ref 42, .ref 33, .int y2, .int y3, .int y4] [] (cd f A R wr) Q) : ∀ (m : Nat) (x2 : Int32) (x3 : Int32) (x4 : Int32), (0 ≤ x4.toInt ∧ x4.toInt ≤ 9) → 9 - x4.toInt < (m : Int) → pmE pg X pg_tyl pg_cl (d + 3) 116 11 [.ref 42, .ref 33, .int x2, .int x3, .int x4] [] (cd f A R wr) Q := by
  have bv := VV_b hv
  intro m
  induction m with
  | zero =>
    intro x2 x3 x4 gx4 hm
    exfalso
    have l0 := zi_lo x4
    have u0 := zi_hi x4
    omega
  | succ m ih =>
    intro x2 x3 x4 gx4 hm
    refine pe_iload (j := 4) (by decide +kernel) rfl ?_
    refine pe_aload_n (j := 1) (by decide +kernel) rfl ?_
    refine pe_get (j := 44) (ci := 7) (n := 0) (by decide +kernel) (by decide +kernel) cd_o33 rfl ?_
    refine pe_topV (v := .ref v) (hR0) ?_
    refine pe_get (j := 48) (ci := 9) (n := 0) (by decide +kernel) (by decide +kernel) (cv_o hv) rfl ?_
    have hr_f_16v := cv_people hv hI
    refine pz_icmp_ge (off := 31) (t := 51) (by decide +kernel) (by decide) rfl rfl rfl (fun h1 => ?_) (fun h1 => ?_)
    · skip
      exact k_51_0 x2 x3 x4 (by omega)
    · skip
      refine pe_iload_n (j := 2) (by decide +kernel) rfl ?_
      refine pe_iload (j := 4) (by decide +kernel) rfl ?_
      refine pi_S (j := 62) (mj := 89) (by decide +kernel) (by decide +kernel) rfl ?_
      show pmE pg X pg_tyl pg_cl (d + 2) 89 0 [.int x2, .int x4] [] (cd f A R wr) _
      refine pe_iload_n (j := 0) (by decide +kernel) rfl ?_
      refine pe_iload_n (j := 1) (by decide +kernel) rfl ?_
      refine pw_shr (by decide +kernel) (fun z2 => ?_)
      refine pe_iconstv (n := 1) (v := 1) (by decide +kernel) (by decide +kernel) ?_
      refine pz_and1 (by decide +kernel) (fun z3 hz3 => ?_)
      refine pz_if_eq (off := 7) (t := 12) (by decide +kernel) (by decide) rfl rfl (fun h4 => ?_) (fun h4 => ?_)
      · skip
        refine pe_iconstv (n := 0) (v := 0) (by decide +kernel) (by decide +kernel) ?_
        refine pe_iret (by decide +kernel) rfl rfl ⟨rfl, rfl, ?_⟩
        show pmE pg X pg_tyl pg_cl (d + 3) 116 29 [.ref 42, .ref 33, .int x2, .int x3, .int x4] [.int 0] (cd f A R wr) _
        refine pz_if_ne (off := 16) (t := 45) (by decide +kernel) (by decide) rfl kz_0 (fun h5 => by omega) (fun h5 => ?_)
        refine pe_iload_n (j := 2) (by decide +kernel) rfl ?_
        refine pe_aload_n (j := 0) (by decide +kernel) rfl ?_
        refine pe_aload_n (j := 1) (by decide +kernel) rfl ?_
        refine pe_iload (j := 4) (by decide +kernel) rfl ?_
        refine pz_callV (j := 66) (mj := 117) (by decide +kernel) (cll_V (args := [.int x4, .ref 33]) (n := 2) (by decide +kernel) rfl rfl cd_o42 (by decide +kernel) (Nat.le_of_ble_eq_true rfl) (Nat.le_of_ble_eq_true rfl)) (CM_117 hX hI hv (hR0) (by omega)) (fun q6a q6b q6c q6d hqq6 => ?_)
        obtain ⟨rq6, eq6, kq6⟩ := hqq6
        cases eq6
        refine ⟨rfl, rfl, ?_⟩
        show pmE pg X pg_tyl pg_cl (d + 3) 116 40 [.ref 42, .ref 33, .int x2, .int x3, .int x4] [.int rq6, .int x2] (cd f A R wr) _
        refine pw_or (by decide +kernel) (fun z7 => ?_)
        refine pe_istore_n (j := 2) (ls' := [.ref 42, .ref 33, .int z7, .int x3, .int x4]) (by decide +kernel) (Nat.le_of_ble_eq_true rfl) rfl ?_
        refine pw_iinc (j := 3) (n := 1) (by decide +kernel) rfl (fun z8 => ?_)
        show pmE pg X pg_tyl pg_cl (d + 3) 116 45 [.ref 42, .ref 33, .int z7, .int z8, .int x4] [] (cd f A R wr) _
        refine pz_iinc (j := 4) (n := 1) (by decide +kernel) rfl rfl (by decide +kernel) (by omega) (by omega) (fun z9 hz9 => ?_)
        show pmE pg X pg_tyl pg_cl (d + 3) 116 48 [.ref 42, .ref 33, .int z7, .int z8, .int z9] [] (cd f A R wr) _
        refine pe_goto (off := (-37)) (t := 11) (by decide +kernel) (by decide) rfl ?_
        exact ih z7 z8 z9 (by omega) (by omega)
      · skip
        refine pe_iconstv (n := 1) (v := 1) (by decide +kernel) (by decide +kernel) ?_
        refine pe_goto (off := 4) (t := 13) (by decide +kernel) (by decide) rfl ?_
        refine pe_iret (by decide +kernel) rfl rfl ⟨rfl, rfl, ?_⟩
        show pmE pg X pg_tyl pg_cl (d + 3) 116 29 [.ref 42, .ref 33, .int x2, .int x3, .int x4] [.int 1] (cd f A R wr) _
        refine pz_if_ne (off := 16) (t := 45) (by decide +kernel) (by decide) rfl kz_1 (fun h10 => ?_) (fun h10 => by omega)
        refine pz_iinc (j := 4) (n := 1) (by decide +kernel) rfl rfl (by decide +kernel) (by omega) (by omega) (fun z11 hz11 => ?_)
        show pmE pg X pg_tyl pg_cl (d + 3) 116 48 [.ref 42, .ref 33, .int x2, .int x3, .int z11] [] (cd f A R wr) _
        refine pe_goto (off := (-37)) (t := 11) (by decide +kernel) (by decide) rfl ?_
        exact ih x2 x3 z11 (by omega) (by omega)
set_option maxRecDepth 100000 in
set_option maxHeartbeats 8000000 in
theorem CM_116 {X : pm_X} {d : Nat} {wr : pm_W} {f : Nat → Int32} {A : Nat → List Int32} {R : Nat → Value} {v : Nat} (hX : XO X) (hI : CI f A R) (hv : VV v) (hR0 : R 0 = .ref v) : pmE pg X pg_tyl pg_cl (d + 3) 116 0 (pm_ent (pm_max pg 116) [.ref 42, .ref 33]) [] (cd f A R wr) (fun q => ∃ (r : Int32), q = (some (.int r), cd f A R wr, 0, 0) ∧ ((True ∧ True))) := by
  have bv := VV_b hv
  show pmE pg X pg_tyl pg_cl (d + 3) 116 0 [.ref 42, .ref 33, pm_dead, pm_dead, pm_dead] [] (cd f A R wr) _
  refine pe_aload_n (j := 0) (by decide +kernel) rfl ?_
  refine pe_aload_n (j := 1) (by decide +kernel) rfl ?_
  refine pz_callV (j := 58) (mj := 114) (by decide +kernel) (cll_V (args := [.ref 33]) (n := 1) (by decide +kernel) rfl rfl cd_o42 (by decide +kernel) (Nat.le_of_ble_eq_true rfl) (Nat.le_of_ble_eq_true rfl)) (CM_114 hX hI hv (hR0)) (fun q1a q1b q1c q1d hqq1 => ?_)
  obtain ⟨rq1, eq1, kq1⟩ := hqq1
  cases eq1
  refine ⟨rfl, rfl, ?_⟩
  show pmE pg X pg_tyl pg_cl (d + 3) 116 5 [.ref 42, .ref 33, pm_dead, pm_dead, pm_dead] [.int rq1] (cd f A R wr) _
  refine pe_istore_n (j := 2) (ls' := [.ref 42, .ref 33, .int rq1, pm_dead, pm_dead]) (by decide +kernel) (Nat.le_of_ble_eq_true rfl) rfl ?_
  refine pe_iconstv (n := 0) (v := 0) (by decide +kernel) (by decide +kernel) ?_
  refine pe_istore_n (j := 3) (ls' := [.ref 42, .ref 33, .int rq1, .int 0, pm_dead]) (by decide +kernel) (Nat.le_of_ble_eq_true rfl) rfl ?_
  refine pe_iconstv (n := 0) (v := 0) (by decide +kernel) (by decide +kernel) ?_
  refine pe_istore (j := 4) (ls' := [.ref 42, .ref 33, .int rq1, .int 0, .int 0]) (by decide +kernel) (Nat.le_of_ble_eq_true rfl) rfl ?_
  refine CL_116_11 hX hI hv (hR0) (fun y2 y3 y4 gy4 => ?_) 10 rq1 0 0 (by decide +kernel) (by decide +kernel)
  refine pe_iload_n (j := 3) (by decide +kernel) rfl ?_
  exact pe_iret (by decide +kernel) rfl rfl ⟨y3, rfl, ⟨trivial, trivial⟩⟩
set_option maxRecDepth 100000 in
set_option maxHeartbeats 8000000 in
theorem CL_118_7 {X : pm_X} {d : Nat} {wr : pm_W} {Q : pm_R → Prop} {f0 : Nat → Int32} {A0 : Nat → List Int32} {R0 : Nat → Value} {v : Nat} (hX : XO X) (hv : VV v) (hR0 : R0 0 = .ref v) (k_69_0 : ∀ (f' : Nat → Int32) (A' : Nat → List Int32) (R' : Nat → Value) (y2 : Int32) (y3 : Int32) (y4 : Int32) (v5 : Value), CI f' A' R' → (∀ k : Nat, k ≠ 737 → k ≠ 738 → f' k = f0 k) → (∀ k : Nat, k ≠ 52 → k ≠ 53 → A' k = A0 k) → (∀ k : Nat, k ≠ 1 → R' k = R0 k) → (0 ≤ y2.toInt) → (0 ≤ y4.toInt ∧ y4.toInt ≤ 9) → pmE pg X pg_tyl pg_cl (d + 4) 118 69 [.ref 42, .ref 33, .int y2, .int y3, .int y4, v5] [] (cd f' A' R' wr) Q) : ∀ (m : Nat) (f : Nat → Int32) (A : Nat → List Int32) (R : Nat → Value) (x2 : Int32) (x3 : Int32) (x4 : Int32) (u5 : Value), CI f A R → (∀ k : Nat, k ≠ 737 → k ≠ 738 → f k = f0 k) → (∀ k : Nat, k ≠ 52 → k ≠ 53 → A k = A0 k) → (∀ k : Nat, k ≠ 1 → R k = R0 k) → (0 ≤ x2.toInt) → (0 ≤ x4.toInt ∧ x4.toInt ≤ 9) → 9 - x4.toInt < (m : Int) → pmE pg X pg_tyl pg_cl (d + 4) 118 7 [.ref 42, .ref 33, .int x2, .int x3, .int x4, u5] [] (cd f A R wr) Q := by
  have bv := VV_b hv
  intro m
  induction m with
  | zero =>
    intro f A R x2 x3 x4 u5 hI hG hF hH gx2 gx4 hm
    exfalso
    have l0 := zi_lo x4
    have u0 := zi_hi x4
    omega
  | succ m ih =>
    intro f A R x2 x3 x4 u5 hI hG hF hH gx2 gx4 hm
    refine pe_iload (j := 4) (by decide +kernel) rfl ?_
    refine pe_aload_n (j := 1) (by decide +kernel) rfl ?_
    refine pe_get (j := 44) (ci := 7) (n := 0) (by decide +kernel) (by decide +kernel) cd_o33 rfl ?_
    refine pe_topV (v := .ref v) (((hH 0 (by decide))).trans (hR0)) ?_
    refine pe_get (j := 48) (ci := 9) (n := 0) (by decide +kernel) (by decide +kernel) (cv_o hv) rfl ?_
    have hr_f_16v := cv_people hv hI
    refine pz_icmp_ge (off := 53) (t := 69) (by decide +kernel) (by decide) rfl rfl rfl (fun h1 => ?_) (fun h1 => ?_)
    · skip
      exact k_69_0 f A R x2 x3 x4 (u5) hI (fun k n737 n738 => (hG k n737 n738)) (fun k n52 n53 => (hF k n52 n53)) (fun k n1 => (hH k n1)) (by omega) (by omega)
    · skip
      refine pe_aload_n (j := 0) (by decide +kernel) rfl ?_
      refine pe_get (j := 24) (ci := 1) (n := 3) (by decide +kernel) (by decide +kernel) cd_o42 rfl ?_
      refine pe_aload_n (j := 1) (by decide +kernel) rfl ?_
      refine pi_V (j := 69) (mj := 119) (by decide +kernel) (cll_V (args := [.ref 33]) (n := 1) (by decide +kernel) rfl rfl cd_o46 (by decide +kernel) (Nat.le_of_ble_eq_true rfl) (Nat.le_of_ble_eq_true rfl)) ?_
      show pmE pg X pg_tyl pg_cl (d + 3) 119 0 [.ref 46, .ref 33] [] (cd f A R wr) _
      refine pe_aload_n (j := 0) (by decide +kernel) rfl ?_
      refine pe_aload_n (j := 1) (by decide +kernel) rfl ?_
      refine pe_get (j := 12) (ci := 7) (n := 0) (by decide +kernel) (by decide +kernel) cd_o33 rfl ?_
      refine pe_topV (v := .ref v) (((hH 0 (by decide))).trans (hR0)) ?_
      refine cz_putR1 (jj := 12) (ty := (.object "RingVillage$Village")) (by decide +kernel) (by decide +kernel) hI pm_fit_obj ⟨_, rfl⟩ (fun R2 eR2 hIR2 => ?_)
      refine pe_aload_n (j := 0) (by decide +kernel) rfl ?_
      refine pe_aload_n (j := 1) (by decide +kernel) rfl ?_
      refine pe_get (j := 28) (ci := 7) (n := 1) (by decide +kernel) (by decide +kernel) cd_o33 rfl ?_
      refine cz_put737 (jj := 28) (by decide +kernel) (by decide +kernel) hIR2 (fun f3 ef3 hIf3 => ?_)
      refine pe_aload_n (j := 0) (by decide +kernel) rfl ?_
      refine pe_aload_n (j := 1) (by decide +kernel) rfl ?_
      refine pe_get (j := 32) (ci := 7) (n := 2) (by decide +kernel) (by decide +kernel) cd_o33 rfl ?_
      have hr_f_530 := cf_530 hI
      refine pe_top (v := (f 530)) (upf_fr ef3 (by decide)) ?_
      refine cz_put738 (jj := 32) (by decide +kernel) (by decide +kernel) hIf3 (by omega) (by omega) (fun f4 ef4 hIf4 => ?_)
      refine pe_aload_n (j := 1) (by decide +kernel) rfl ?_
      refine pe_get (j := 18) (ci := 7) (n := 3) (by decide +kernel) (by decide +kernel) cd_o33 rfl ?_
      refine pe_iconstv (n := 0) (v := 0) (by decide +kernel) (by decide +kernel) ?_
      refine pe_aload_n (j := 0) (by decide +kernel) rfl ?_
      refine pe_get (j := 18) (ci := 7) (n := 3) (by decide +kernel) (by decide +kernel) cd_o46 rfl ?_
      refine pe_iconstv (n := 0) (v := 0) (by decide +kernel) (by decide +kernel) ?_
      refine pe_bipushv (n := 81) (v := 81) (by decide +kernel) (by decide +kernel) ?_
      have hl5 := kz_81
      have hl6 := kz_0
      have hl7 := kz_0
      refine cz_copy (j := 41) (a := 0) (b := 0) (c := 81) (by decide +kernel) (by decide +kernel) (Nat.le_of_ble_eq_true rfl) cd_a39 cd_a52 (by decide +kernel) (fun _ => cd_s52) hIf4 (cl_39 hIf4) (cl_52 hIf4) kz_0 kz_0 kz_81 (by omega) (by omega) (by omega) (by omega) (by omega) (Or.inl rfl) (ct_no (by decide +kernel)) (fun A8 eA8 hIA8 => ?_)
      refine pe_aload_n (j := 1) (by decide +kernel) rfl ?_
      refine pe_get (j := 22) (ci := 7) (n := 4) (by decide +kernel) (by decide +kernel) cd_o33 rfl ?_
      refine pe_iconstv (n := 0) (v := 0) (by decide +kernel) (by decide +kernel) ?_
      refine pe_aload_n (j := 0) (by decide +kernel) rfl ?_
      refine pe_get (j := 22) (ci := 7) (n := 4) (by decide +kernel) (by decide +kernel) cd_o46 rfl ?_
      refine pe_iconstv (n := 0) (v := 0) (by decide +kernel) (by decide +kernel) ?_
      refine pe_aload_n (j := 0) (by decide +kernel) rfl ?_
      refine pe_get (j := 32) (ci := 7) (n := 2) (by decide +kernel) (by decide +kernel) cd_o46 rfl ?_
      refine pe_top (v := (f 530)) (upf_at ef4) ?_
      refine pe_bipushv (n := 10) (v := 10) (by decide +kernel) (by decide +kernel) ?_
      refine pz_mul (by decide +kernel) rfl kz_10 (by omega) (by omega) (fun z9 hz9 => ?_)
      have hl10 := kz_0
      have hl11 := kz_0
      refine cz_copy (j := 41) (a := 0) (b := 0) (c := ((f 530).toInt * 10)) (by decide +kernel) (by decide +kernel) (Nat.le_of_ble_eq_true rfl) cd_a40 cd_a53 (by decide +kernel) (fun _ => cd_s53) hIA8 (cl_40 hIA8) (cl_53 hIA8) kz_0 kz_0 hz9 (by omega) (by omega) (by omega) (by omega) (by omega) (Or.inl rfl) (ct_one (kd := 1) (P := fun kd => ∀ i, i < (((f 530).toInt * 10) : Int).toNat → CT kd ((0 : Int).toNat + i) ((A8 40).getD ((0 : Int).toNat + i) 0).toInt) (by decide +kernel) (fun i _ => ct_40 hIA8 rfl)) (fun A12 eA12 hIA12 => ?_)
      refine pe_vret (by decide +kernel) rfl ⟨rfl, rfl, ?_⟩
      show pmE pg X pg_tyl pg_cl (d + 4) 118 27 [.ref 42, .ref 33, .int x2, .int x3, .int x4, u5] [] (cd f4 A12 R2 wr) _
      refine pe_aload_n (j := 0) (by decide +kernel) rfl ?_
      refine pe_get (j := 24) (ci := 1) (n := 3) (by decide +kernel) (by decide +kernel) cd_o42 rfl ?_
      refine pe_iload (j := 4) (by decide +kernel) rfl ?_
      refine pz_callV (j := 73) (mj := 86) (by decide +kernel) (cll_V (args := [.int x4]) (n := 1) (by decide +kernel) rfl rfl cd_o46 (by decide +kernel) (Nat.le_of_ble_eq_true rfl) (Nat.le_of_ble_eq_true rfl)) (CM_86_1 hX hIA12 hv (upr_at eR2)) (fun q13a q13b q13c q13d hqq13 => ?_)
      obtain ⟨A14, rq13, eq13, hIq13, hFq13, kq13⟩ := hqq13
      cases eq13
      refine ⟨rfl, rfl, ?_⟩
      rcases kq13 with kq13 | kq13
      · skip
        obtain ⟨erq13, kq13⟩ := kq13
        subst erq13
        show pmE pg X pg_tyl pg_cl (d + 4) 118 36 [.ref 42, .ref 33, .int x2, .int x3, .int x4, u5] [.int 0] (cd f4 A14 R2 wr) _
        refine pe_pop (by decide +kernel) rfl ?_
        refine pe_aload_n (j := 0) (by decide +kernel) rfl ?_
        refine pe_get (j := 24) (ci := 1) (n := 3) (by decide +kernel) (by decide +kernel) cd_o42 rfl ?_
        refine pz_callV (j := 28) (mj := 105) (by decide +kernel) (cll_V (args := []) (n := 0) (by decide +kernel) rfl rfl cd_o46 (by decide +kernel) (Nat.le_of_ble_eq_true rfl) (Nat.le_of_ble_eq_true rfl)) (CM_105_1 hX hIq13) (fun q15a q15b q15c q15d hqq15 => ?_)
        obtain ⟨rq15, eq15, kq15⟩ := hqq15
        cases eq15
        refine ⟨rfl, rfl, ?_⟩
        show pmE pg X pg_tyl pg_cl (d + 4) 118 44 [.ref 42, .ref 33, .int x2, .int x3, .int x4, u5] [.int rq15] (cd f4 A14 R2 wr) _
        refine pe_istore (j := 5) (ls' := [.ref 42, .ref 33, .int x2, .int x3, .int x4, .int rq15]) (by decide +kernel) (Nat.le_of_ble_eq_true rfl) rfl ?_
        refine pe_iload (j := 4) (by decide +kernel) rfl ?_
        refine pz_if_eq (off := 9) (t := 57) (by decide +kernel) (by decide) rfl rfl (fun h16 => ?_) (fun h16 => ?_)
        · skip
          refine pe_iload (j := 4) (by decide +kernel) rfl ?_
          refine pe_istore_n (j := 2) (ls' := [.ref 42, .ref 33, .int x4, .int x3, .int x4, .int rq15]) (by decide +kernel) (Nat.le_of_ble_eq_true rfl) rfl ?_
          refine pe_iload (j := 5) (by decide +kernel) rfl ?_
          refine pe_istore_n (j := 3) (ls' := [.ref 42, .ref 33, .int x4, .int rq15, .int x4, .int rq15]) (by decide +kernel) (Nat.le_of_ble_eq_true rfl) rfl ?_
          refine pz_iinc (j := 4) (n := 1) (by decide +kernel) rfl rfl (by decide +kernel) (by omega) (by omega) (fun z17 hz17 => ?_)
          show pmE pg X pg_tyl pg_cl (d + 4) 118 66 [.ref 42, .ref 33, .int x4, .int rq15, .int z17, .int rq15] [] (cd f4 A14 R2 wr) _
          refine pe_goto (off := (-59)) (t := 7) (by decide +kernel) (by decide) rfl ?_
          exact ih f4 A14 R2 x4 rq15 z17 (.int rq15) hIq13 (fun k n737 n738 => (upf_fr ef4 n738).trans ((upf_fr ef3 n737).trans ((hG k n737 n738)))) (fun k n52 n53 => ((hFq13 k n52 n53)).trans ((upa_fr eA12 n53).trans ((upa_fr eA8 n52).trans ((hF k n52 n53))))) (fun k n1 => (upr_fr eR2 n1).trans ((hH k n1))) (by omega) (by omega) (by omega)
        · skip
          refine pe_iload (j := 5) (by decide +kernel) rfl ?_
          refine pe_iload_n (j := 3) (by decide +kernel) rfl ?_
          have lw19 := zi_lo rq15
          have uw19 := zi_hi rq15
          have lw20 := zi_lo x3
          have uw20 := zi_hi x3
          refine pz_icmp_ge (off := 9) (t := 63) (by decide +kernel) (by decide) rfl rfl rfl (fun h18 => ?_) (fun h18 => ?_)
          · skip
            refine pz_iinc (j := 4) (n := 1) (by decide +kernel) rfl rfl (by decide +kernel) (by omega) (by omega) (fun z21 hz21 => ?_)
            show pmE pg X pg_tyl pg_cl (d + 4) 118 66 [.ref 42, .ref 33, .int x2, .int x3, .int z21, .int rq15] [] (cd f4 A14 R2 wr) _
            refine pe_goto (off := (-59)) (t := 7) (by decide +kernel) (by decide) rfl ?_
            exact ih f4 A14 R2 x2 x3 z21 (.int rq15) hIq13 (fun k n737 n738 => (upf_fr ef4 n738).trans ((upf_fr ef3 n737).trans ((hG k n737 n738)))) (fun k n52 n53 => ((hFq13 k n52 n53)).trans ((upa_fr eA12 n53).trans ((upa_fr eA8 n52).trans ((hF k n52 n53))))) (fun k n1 => (upr_fr eR2 n1).trans ((hH k n1))) (by omega) (by omega) (by omega)
          · skip
            refine pe_iload (j := 4) (by decide +kernel) rfl ?_
            refine pe_istore_n (j := 2) (ls' := [.ref 42, .ref 33, .int x4, .int x3, .int x4, .int rq15]) (by decide +kernel) (Nat.le_of_ble_eq_true rfl) rfl ?_
            refine pe_iload (j := 5) (by decide +kernel) rfl ?_
            refine pe_istore_n (j := 3) (ls' := [.ref 42, .ref 33, .int x4, .int rq15, .int x4, .int rq15]) (by decide +kernel) (Nat.le_of_ble_eq_true rfl) rfl ?_
            refine pz_iinc (j := 4) (n := 1) (by decide +kernel) rfl rfl (by decide +kernel) (by omega) (by omega) (fun z22 hz22 => ?_)
            show pmE pg X pg_tyl pg_cl (d + 4) 118 66 [.ref 42, .ref 33, .int x4, .int rq15, .int z22, .int rq15] [] (cd f4 A14 R2 wr) _
            refine pe_goto (off := (-59)) (t := 7) (by decide +kernel) (by decide) rfl ?_
            exact ih f4 A14 R2 x4 rq15 z22 (.int rq15) hIq13 (fun k n737 n738 => (upf_fr ef4 n738).trans ((upf_fr ef3 n737).trans ((hG k n737 n738)))) (fun k n52 n53 => ((hFq13 k n52 n53)).trans ((upa_fr eA12 n53).trans ((upa_fr eA8 n52).trans ((hF k n52 n53))))) (fun k n1 => (upr_fr eR2 n1).trans ((hH k n1))) (by omega) (by omega) (by omega)
      · skip
        obtain ⟨erq13, kq13⟩ := kq13
        subst erq13
        show pmE pg X pg_tyl pg_cl (d + 4) 118 36 [.ref 42, .ref 33, .int x2, .int x3, .int x4, u5] [.int 1] (cd f4 A14 R2 wr) _
        refine pe_pop (by decide +kernel) rfl ?_
        refine pe_aload_n (j := 0) (by decide +kernel) rfl ?_
        refine pe_get (j := 24) (ci := 1) (n := 3) (by decide +kernel) (by decide +kernel) cd_o42 rfl ?_
        refine pz_callV (j := 28) (mj := 105) (by decide +kernel) (cll_V (args := []) (n := 0) (by decide +kernel) rfl rfl cd_o46 (by decide +kernel) (Nat.le_of_ble_eq_true rfl) (Nat.le_of_ble_eq_true rfl)) (CM_105_1 hX hIq13) (fun q23a q23b q23c q23d hqq23 => ?_)
        obtain ⟨rq23, eq23, kq23⟩ := hqq23
        cases eq23
        refine ⟨rfl, rfl, ?_⟩
        show pmE pg X pg_tyl pg_cl (d + 4) 118 44 [.ref 42, .ref 33, .int x2, .int x3, .int x4, u5] [.int rq23] (cd f4 A14 R2 wr) _
        refine pe_istore (j := 5) (ls' := [.ref 42, .ref 33, .int x2, .int x3, .int x4, .int rq23]) (by decide +kernel) (Nat.le_of_ble_eq_true rfl) rfl ?_
        refine pe_iload (j := 4) (by decide +kernel) rfl ?_
        refine pz_if_eq (off := 9) (t := 57) (by decide +kernel) (by decide) rfl rfl (fun h24 => ?_) (fun h24 => ?_)
        · skip
          refine pe_iload (j := 4) (by decide +kernel) rfl ?_
          refine pe_istore_n (j := 2) (ls' := [.ref 42, .ref 33, .int x4, .int x3, .int x4, .int rq23]) (by decide +kernel) (Nat.le_of_ble_eq_true rfl) rfl ?_
          refine pe_iload (j := 5) (by decide +kernel) rfl ?_
          refine pe_istore_n (j := 3) (ls' := [.ref 42, .ref 33, .int x4, .int rq23, .int x4, .int rq23]) (by decide +kernel) (Nat.le_of_ble_eq_true rfl) rfl ?_
          refine pz_iinc (j := 4) (n := 1) (by decide +kernel) rfl rfl (by decide +kernel) (by omega) (by omega) (fun z25 hz25 => ?_)
          show pmE pg X pg_tyl pg_cl (d + 4) 118 66 [.ref 42, .ref 33, .int x4, .int rq23, .int z25, .int rq23] [] (cd f4 A14 R2 wr) _
          refine pe_goto (off := (-59)) (t := 7) (by decide +kernel) (by decide) rfl ?_
          exact ih f4 A14 R2 x4 rq23 z25 (.int rq23) hIq13 (fun k n737 n738 => (upf_fr ef4 n738).trans ((upf_fr ef3 n737).trans ((hG k n737 n738)))) (fun k n52 n53 => ((hFq13 k n52 n53)).trans ((upa_fr eA12 n53).trans ((upa_fr eA8 n52).trans ((hF k n52 n53))))) (fun k n1 => (upr_fr eR2 n1).trans ((hH k n1))) (by omega) (by omega) (by omega)
        · skip
          refine pe_iload (j := 5) (by decide +kernel) rfl ?_
          refine pe_iload_n (j := 3) (by decide +kernel) rfl ?_
          have lw27 := zi_lo rq23
          have uw27 := zi_hi rq23
          have lw28 := zi_lo x3
          have uw28 := zi_hi x3
          refine pz_icmp_ge (off := 9) (t := 63) (by decide +kernel) (by decide) rfl rfl rfl (fun h26 => ?_) (fun h26 => ?_)
          · skip
            refine pz_iinc (j := 4) (n := 1) (by decide +kernel) rfl rfl (by decide +kernel) (by omega) (by omega) (fun z29 hz29 => ?_)
            show pmE pg X pg_tyl pg_cl (d + 4) 118 66 [.ref 42, .ref 33, .int x2, .int x3, .int z29, .int rq23] [] (cd f4 A14 R2 wr) _
            refine pe_goto (off := (-59)) (t := 7) (by decide +kernel) (by decide) rfl ?_
            exact ih f4 A14 R2 x2 x3 z29 (.int rq23) hIq13 (fun k n737 n738 => (upf_fr ef4 n738).trans ((upf_fr ef3 n737).trans ((hG k n737 n738)))) (fun k n52 n53 => ((hFq13 k n52 n53)).trans ((upa_fr eA12 n53).trans ((upa_fr eA8 n52).trans ((hF k n52 n53))))) (fun k n1 => (upr_fr eR2 n1).trans ((hH k n1))) (by omega) (by omega) (by omega)
          · skip
            refine pe_iload (j := 4) (by decide +kernel) rfl ?_
            refine pe_istore_n (j := 2) (ls' := [.ref 42, .ref 33, .int x4, .int x3, .int x4, .int rq23]) (by decide +kernel) (Nat.le_of_ble_eq_true rfl) rfl ?_
            refine pe_iload (j := 5) (by decide +kernel) rfl ?_
            refine pe_istore_n (j := 3) (ls' := [.ref 42, .ref 33, .int x4, .int rq23, .int x4, .int rq23]) (by decide +kernel) (Nat.le_of_ble_eq_true rfl) rfl ?_
            refine pz_iinc (j := 4) (n := 1) (by decide +kernel) rfl rfl (by decide +kernel) (by omega) (by omega) (fun z30 hz30 => ?_)
            show pmE pg X pg_tyl pg_cl (d + 4) 118 66 [.ref 42, .ref 33, .int x4, .int rq23, .int z30, .int rq23] [] (cd f4 A14 R2 wr) _
            refine pe_goto (off := (-59)) (t := 7) (by decide +kernel) (by decide) rfl ?_
            exact ih f4 A14 R2 x4 rq23 z30 (.int rq23) hIq13 (fun k n737 n738 => (upf_fr ef4 n738).trans ((upf_fr ef3 n737).trans ((hG k n737 n738)))) (fun k n52 n53 => ((hFq13 k n52 n53)).trans ((upa_fr eA12 n53).trans ((upa_fr eA8 n52).trans ((hF k n52 n53))))) (fun k n1 => (upr_fr eR2 n1).trans ((hH k n1))) (by omega) (by omega) (by omega)
set_option maxRecDepth 100000 in
set_option maxHeartbeats 8000000 in
theorem CM_118 {X : pm_X} {d : Nat} {wr : pm_W} {f : Nat → Int32} {A : Nat → List Int32} {R : Nat → Value} {v : Nat} (hX : XO X) (hI : CI f A R) (hv : VV v) (hR0 : R 0 = .ref v) : pmE pg X pg_tyl pg_cl (d + 4) 118 0 (pm_ent (pm_max pg 118) [.ref 42, .ref 33]) [] (cd f A R wr) (fun q => ∃ (f' : Nat → Int32) (A' : Nat → List Int32) (R' : Nat → Value) (r : Int32), q = (some (.int r), cd f' A' R' wr, 0, 0) ∧ CI f' A' R' ∧ (∀ k : Nat, k ≠ 737 → k ≠ 738 → f' k = f k) ∧ (∀ k : Nat, k ≠ 52 → k ≠ 53 → A' k = A k) ∧ (∀ k : Nat, k ≠ 1 → R' k = R k) ∧ (((0 ≤ r.toInt) ∧ True))) := by
  have bv := VV_b hv
  show pmE pg X pg_tyl pg_cl (d + 4) 118 0 [.ref 42, .ref 33, pm_dead, pm_dead, pm_dead, pm_dead] [] (cd f A R wr) _
  refine pe_iconstv (n := 0) (v := 0) (by decide +kernel) (by decide +kernel) ?_
  refine pe_istore_n (j := 2) (ls' := [.ref 42, .ref 33, .int 0, pm_dead, pm_dead, pm_dead]) (by decide +kernel) (Nat.le_of_ble_eq_true rfl) rfl ?_
  refine pe_iconstv (n := 0) (v := 0) (by decide +kernel) (by decide +kernel) ?_
  refine pe_istore_n (j := 3) (ls' := [.ref 42, .ref 33, .int 0, .int 0, pm_dead, pm_dead]) (by decide +kernel) (Nat.le_of_ble_eq_true rfl) rfl ?_
  refine pe_iconstv (n := 0) (v := 0) (by decide +kernel) (by decide +kernel) ?_
  refine pe_istore (j := 4) (ls' := [.ref 42, .ref 33, .int 0, .int 0, .int 0, pm_dead]) (by decide +kernel) (Nat.le_of_ble_eq_true rfl) rfl ?_
  refine CL_118_7 hX hv (hR0) (fun f1 A2 R3 y4 y5 y6 u7 hIy8 hGf1 hFA2 hHR3 gy4 gy6 => ?_) 10 f A R 0 0 0 (pm_dead) hI (fun k _ _ => rfl) (fun k _ _ => rfl) (fun k _ => rfl) (by decide +kernel) (by decide +kernel) (by decide +kernel)
  refine pe_iload_n (j := 2) (by decide +kernel) rfl ?_
  exact pe_iret (by decide +kernel) rfl rfl ⟨f1, A2, R3, y4, rfl, hIy8, (fun k n737 n738 => (hGf1 k n737 n738)), (fun k n52 n53 => (hFA2 k n52 n53)), (fun k n1 => (hHR3 k n1)), ⟨(by omega), trivial⟩⟩
end
section
set_option maxRecDepth 100000 in
set_option maxHeartbeats 8000000 in
theorem CL_110_2 {X : pm_X} {d : Nat} {wr : pm_W} {Q : pm_R → Prop} {f : Nat → Int32} {A : Nat → List Int32} {R : Nat → Value} {x1 : Int32} (hX : XO X) (hI : CI f A R) (gx1 : (0 ≤ x1.toInt ∧ x1.toInt ≤ 8)) (k_29_0 : ∀ (y2 : Int32), (9 ≤ y2.toInt ∧ y2.toInt ≤ 9) → pmE pg X pg_tyl pg_cl (d + 1) 110 29 [.ref 42, .int x1, .int y2] [] (cd f A R wr) Q) (kr_v : ∀ (r : Int32), (0 ≤ r.toInt ∧ r.toInt ≤ 8) → Q (some (.int r), cd f A R wr, 0, 0)) : ∀ (m : Nat) (x2 : Int32), (0 ≤ x2.toInt ∧ x2.toInt ≤ 9) → 9 - x2.toInt < (m : Int) → pmE pg X pg_tyl pg_cl (d + 1) 110 2 [.ref 42, .int x1, .int x2] [] (cd f A R wr) Q := by
  intro m
  induction m with
  | zero =>
    intro x2 gx2 hm
    exfalso
    have l0 := zi_lo x2
    have u0 := zi_hi x2
    omega
  | succ m ih =>
    intro x2 gx2 hm
    refine pe_iload_n (j := 2) (by decide +kernel) rfl ?_
    refine pe_bipushv (n := 9) (v := 9) (by decide +kernel) (by decide +kernel) ?_
    refine pz_icmp_ge (off := 24) (t := 29) (by decide +kernel) (by decide) rfl rfl kz_9 (fun h1 => ?_) (fun h1 => ?_)
    · skip
      exact k_29_0 x2 (by omega)
    · skip
      refine pe_aload_n (j := 0) (by decide +kernel) rfl ?_
      refine pe_get (j := 9) (ci := 1) (n := 0) (by decide +kernel) (by decide +kernel) cd_o42 rfl ?_
      refine pe_iload_n (j := 1) (by decide +kernel) rfl ?_
      refine pe_iload_n (j := 2) (by decide +kernel) rfl ?_
      refine pi_S (j := 35) (mj := 52) (by decide +kernel) (by decide +kernel) rfl ?_
      show pmE pg X pg_tyl pg_cl (d) 52 0 [.int x1, .int x2] [] (cd f A R wr) _
      refine pe_iload_n (j := 0) (by decide +kernel) rfl ?_
      refine pe_bipushv (n := 9) (v := 9) (by decide +kernel) (by decide +kernel) ?_
      refine pz_mul (by decide +kernel) rfl kz_9 (by omega) (by omega) (fun z2 hz2 => ?_)
      refine pe_iload_n (j := 1) (by decide +kernel) rfl ?_
      refine pz_add (by decide +kernel) hz2 rfl (by omega) (by omega) (fun z3 hz3 => ?_)
      clear hz2
      refine pe_iret (by decide +kernel) rfl rfl ⟨rfl, rfl, ?_⟩
      show pmE pg X pg_tyl pg_cl (d + 1) 110 17 [.ref 42, .int x1, .int x2] [.int z3, .ref 43] (cd f A R wr) _
      refine pz_iald (by decide +kernel) cd_a43 (cl_43 hI) hz3 (by omega) (by omega) (fun v4 ev4 => ?_)
      clear hz3
      have lw6 := zi_lo v4
      have uw6 := zi_hi v4
      refine pz_if_le (off := 5) (t := 23) (by decide +kernel) (by decide) rfl rfl (fun h5 => ?_) (fun h5 => ?_)
      · skip
        refine pz_iinc (j := 2) (n := 1) (by decide +kernel) rfl rfl (by decide +kernel) (by omega) (by omega) (fun z7 hz7 => ?_)
        show pmE pg X pg_tyl pg_cl (d + 1) 110 26 [.ref 42, .int x1, .int z7] [] (cd f A R wr) _
        refine pe_goto (off := (-24)) (t := 2) (by decide +kernel) (by decide) rfl ?_
        exact ih z7 (by omega) (by omega)
      · skip
        refine pe_iload_n (j := 2) (by decide +kernel) rfl ?_
        exact pe_iret (by decide +kernel) rfl rfl (kr_v x2 (by omega))
set_option maxRecDepth 100000 in
set_option maxHeartbeats 8000000 in
theorem CM_110 {X : pm_X} {d : Nat} {wr : pm_W} {f : Nat → Int32} {A : Nat → List Int32} {R : Nat → Value} {x1 : Int32} (hX : XO X) (hI : CI f A R) (gx1 : (0 ≤ x1.toInt ∧ x1.toInt ≤ 8)) : pmE pg X pg_tyl pg_cl (d + 1) 110 0 (pm_ent (pm_max pg 110) [.ref 42, .int x1]) [] (cd f A R wr) (fun q => ∃ (r : Int32), q = (some (.int r), cd f A R wr, 0, 0) ∧ ((((-1) ≤ r.toInt ∧ r.toInt ≤ 8) ∧ True))) := by
  show pmE pg X pg_tyl pg_cl (d + 1) 110 0 [.ref 42, .int x1, pm_dead] [] (cd f A R wr) _
  refine pe_iconstv (n := 0) (v := 0) (by decide +kernel) (by decide +kernel) ?_
  refine pe_istore_n (j := 2) (ls' := [.ref 42, .int x1, .int 0]) (by decide +kernel) (Nat.le_of_ble_eq_true rfl) rfl ?_
  refine CL_110_2 hX hI (by omega) (fun y1 gy1 => ?_) (fun r2 gr2 => ⟨r2, rfl, ⟨(by omega), trivial⟩⟩) 10 0 (by decide +kernel) (by decide +kernel)
  refine pe_iconstv (n := (-1)) (v := (-1)) (by decide +kernel) (by decide +kernel) ?_
  exact pe_iret (by decide +kernel) rfl rfl ⟨(-1), rfl, ⟨(by decide +kernel), trivial⟩⟩
set_option maxRecDepth 100000 in
set_option maxHeartbeats 8000000 in
theorem CL_109_2 {X : pm_X} {d : Nat} {wr : pm_W} {Q : pm_R → Prop} {f : Nat → Int32} {A : Nat → List Int32} {R : Nat → Value} (hX : XO X) (hI : CI f A R) (k_25_0 : ∀ (y1 : Int32), (9 ≤ y1.toInt ∧ y1.toInt ≤ 9) → pmE pg X pg_tyl pg_cl (d + 2) 109 25 [.ref 42, .int y1] [] (cd f A R wr) Q) (kr_v : ∀ (r : Int32), (0 ≤ r.toInt ∧ r.toInt ≤ 8) → Q (some (.int r), cd f A R wr, 0, 0)) : ∀ (m : Nat) (x1 : Int32), (0 ≤ x1.toInt ∧ x1.toInt ≤ 9) → 9 - x1.toInt < (m : Int) → pmE pg X pg_tyl pg_cl (d + 2) 109 2 [.ref 42, .int x1] [] (cd f A R wr) Q := by
  intro m
  induction m with
  | zero =>
    intro x1 gx1 hm
    exfalso
    have l0 := zi_lo x1
    have u0 := zi_hi x1
    omega
  | succ m ih =>
    intro x1 gx1 hm
    refine pe_iload_n (j := 1) (by decide +kernel) rfl ?_
    refine pe_bipushv (n := 9) (v := 9) (by decide +kernel) (by decide +kernel) ?_
    refine pz_icmp_ge (off := 20) (t := 25) (by decide +kernel) (by decide) rfl rfl kz_9 (fun h1 => ?_) (fun h1 => ?_)
    · skip
      exact k_25_0 x1 (by omega)
    · skip
      refine pe_aload_n (j := 0) (by decide +kernel) rfl ?_
      refine pe_iload_n (j := 1) (by decide +kernel) rfl ?_
      refine pz_callV (j := 93) (mj := 110) (by decide +kernel) (cll_V (args := [.int x1]) (n := 1) (by decide +kernel) rfl rfl cd_o42 (by decide +kernel) (Nat.le_of_ble_eq_true rfl) (Nat.le_of_ble_eq_true rfl)) (CM_110 hX hI (by omega)) (fun q2a q2b q2c q2d hqq2 => ?_)
      obtain ⟨rq2, eq2, kq2⟩ := hqq2
      cases eq2
      refine ⟨rfl, rfl, ?_⟩
      show pmE pg X pg_tyl pg_cl (d + 2) 109 13 [.ref 42, .int x1] [.int rq2] (cd f A R wr) _
      refine pe_iconstv (n := (-1)) (v := (-1)) (by decide +kernel) (by decide +kernel) ?_
      refine pz_icmp_eq (off := 5) (t := 19) (by decide +kernel) (by decide) rfl rfl kz_m1 (fun h3 => ?_) (fun h3 => ?_)
      · skip
        refine pz_iinc (j := 1) (n := 1) (by decide +kernel) rfl rfl (by decide +kernel) (by omega) (by omega) (fun z4 hz4 => ?_)
        show pmE pg X pg_tyl pg_cl (d + 2) 109 22 [.ref 42, .int z4] [] (cd f A R wr) _
        refine pe_goto (off := (-20)) (t := 2) (by decide +kernel) (by decide) rfl ?_
        exact ih z4 (by omega) (by omega)
      · skip
        refine pe_iload_n (j := 1) (by decide +kernel) rfl ?_
        exact pe_iret (by decide +kernel) rfl rfl (kr_v x1 (by omega))
set_option maxRecDepth 100000 in
set_option maxHeartbeats 8000000 in
theorem CM_109 {X : pm_X} {d : Nat} {wr : pm_W} {f : Nat → Int32} {A : Nat → List Int32} {R : Nat → Value} (hX : XO X) (hI : CI f A R) : pmE pg X pg_tyl pg_cl (d + 2) 109 0 (pm_ent (pm_max pg 109) [.ref 42]) [] (cd f A R wr) (fun q => ∃ (r : Int32), q = (some (.int r), cd f A R wr, 0, 0) ∧ ((((-1) ≤ r.toInt ∧ r.toInt ≤ 8) ∧ True))) := by
  show pmE pg X pg_tyl pg_cl (d + 2) 109 0 [.ref 42, pm_dead] [] (cd f A R wr) _
  refine pe_iconstv (n := 0) (v := 0) (by decide +kernel) (by decide +kernel) ?_
  refine pe_istore_n (j := 1) (ls' := [.ref 42, .int 0]) (by decide +kernel) (Nat.le_of_ble_eq_true rfl) rfl ?_
  refine CL_109_2 hX hI (fun y1 gy1 => ?_) (fun r2 gr2 => ⟨r2, rfl, ⟨(by omega), trivial⟩⟩) 10 0 (by decide +kernel) (by decide +kernel)
  refine pe_iconstv (n := (-1)) (v := (-1)) (by decide +kernel) (by decide +kernel) ?_
  exact pe_iret (by decide +kernel) rfl rfl ⟨(-1), rfl, ⟨(by decide +kernel), trivial⟩⟩
set_option maxRecDepth 100000 in
set_option maxHeartbeats 8000000 in
theorem CL_111_118 {X : pm_X} {d : Nat} {wr : pm_W} {Q : pm_R → Prop} {f : Nat → Int32} {A0 : Nat → List Int32} {R : Nat → Value} {x1 x2 x3 x4 x5 : Int32} (hX : XO X) (gx1 : (0 ≤ x1.toInt ∧ x1.toInt ≤ 8)) (gx2 : (0 ≤ x2.toInt ∧ x2.toInt ≤ 8)) (gx3 : (0 ≤ x3.toInt ∧ x3.toInt ≤ 9)) (gx4 : (0 ≤ x4.toInt ∧ x4.toInt ≤ 8)) (gx5 : (x5.toInt ≤ 1000000)) (k_149_0 : ∀ (A' : Nat → List Int32) (y6 : Int32), CI f A' R → (∀ k : Nat, k ≠ 43 → A' k = A0 k) → (0 ≤ y6.toInt ∧ y6.toInt ≤ 9) → x3.toInt ≤ y6.toInt → pmE pg X pg_tyl pg_cl (d + 2) 111 149 [.ref 42, .int x1, .int x2, .int x3, .int x4, .int x5, .int y6] [] (cd f A' R wr) Q) : ∀ (m : Nat) (A : Nat → List Int32) (x6 : Int32), CI f A R → (∀ k : Nat, k ≠ 43 → A k = A0 k) → (0 ≤ x6.toInt ∧ x6.toInt ≤ 9) → 9 - x6.toInt < (m : Int) → pmE pg X pg_tyl pg_cl (d + 2) 111 118 [.ref 42, .int x1, .int x2, .int x3, .int x4, .int x5, .int x6] [] (cd f A R wr) Q := by
  intro m
  induction m with
  | zero =>
    intro A x6 hI hF gx6 hm
    exfalso
    have l0 := zi_lo x6
    have u0 := zi_hi x6
    omega
  | succ m ih =>
    intro A x6 hI hF gx6 hm
    refine pe_iload (j := 6) (by decide +kernel) rfl ?_
    refine pe_iload_n (j := 3) (by decide +kernel) rfl ?_
    refine pz_icmp_ge (off := 28) (t := 149) (by decide +kernel) (by decide) rfl rfl rfl (fun h1 => ?_) (fun h1 => ?_)
    · skip
      exact k_149_0 A x6 hI (fun k n43 => (hF k n43)) (by omega) (by omega)
    · skip
      refine pe_aload_n (j := 0) (by decide +kernel) rfl ?_
      refine pe_get (j := 9) (ci := 1) (n := 0) (by decide +kernel) (by decide +kernel) cd_o42 rfl ?_
      refine pe_aload_n (j := 0) (by decide +kernel) rfl ?_
      refine pe_iload (j := 6) (by decide +kernel) rfl ?_
      refine pe_iload (j := 4) (by decide +kernel) rfl ?_
      refine pe_iload_n (j := 3) (by decide +kernel) rfl ?_
      refine pi_V (j := 104) (mj := 112) (by decide +kernel) (cll_V (args := [.int x3, .int x4, .int x6]) (n := 3) (by decide +kernel) rfl rfl cd_o42 (by decide +kernel) (Nat.le_of_ble_eq_true rfl) (Nat.le_of_ble_eq_true rfl)) ?_
      show pmE pg X pg_tyl pg_cl (d + 1) 112 0 [.ref 42, .int x6, .int x4, .int x3] [] (cd f A R wr) _
      refine pe_aload_n (j := 0) (by decide +kernel) rfl ?_
      refine pe_get (j := 15) (ci := 1) (n := 1) (by decide +kernel) (by decide +kernel) cd_o42 rfl ?_
      refine pe_iload_n (j := 1) (by decide +kernel) rfl ?_
      refine pz_iald (by decide +kernel) cd_a44 (cl_44 hI) rfl (by omega) (by omega) (fun v2 ev2 => ?_)
      have rv2 : 0 ≤ v2.toInt ∧ v2.toInt ≤ 8 := ct_44 hI ev2
      rw [show A 44 = A0 44 from (hF 44 (by decide))] at ev2
      refine pe_aload_n (j := 0) (by decide +kernel) rfl ?_
      refine pe_get (j := 15) (ci := 1) (n := 1) (by decide +kernel) (by decide +kernel) cd_o42 rfl ?_
      refine pe_iload_n (j := 1) (by decide +kernel) rfl ?_
      refine pe_iconstv (n := 1) (v := 1) (by decide +kernel) (by decide +kernel) ?_
      refine pz_add (by decide +kernel) rfl kz_1 (by omega) (by omega) (fun z3 hz3 => ?_)
      refine pe_iload_n (j := 3) (by decide +kernel) rfl ?_
      refine pz_icmp_ge (off := 9) (t := 23) (by decide +kernel) (by decide) rfl hz3 rfl (fun h4 => ?_) (fun h4 => ?_)
      · skip
        clear hz3
        refine pe_iload_n (j := 2) (by decide +kernel) rfl ?_
        refine pz_iald (by decide +kernel) cd_a44 (cl_44 hI) rfl (by omega) (by omega) (fun v5 ev5 => ?_)
        have rv5 : 0 ≤ v5.toInt ∧ v5.toInt ≤ 8 := ct_44 hI ev5
        rw [show A 44 = A0 44 from (hF 44 (by decide))] at ev5
        refine pi_S (j := 35) (mj := 52) (by decide +kernel) (by decide +kernel) rfl ?_
        show pmE pg X pg_tyl pg_cl (d) 52 0 [.int v2, .int v5] [] (cd f A R wr) _
        refine pe_iload_n (j := 0) (by decide +kernel) rfl ?_
        refine pe_bipushv (n := 9) (v := 9) (by decide +kernel) (by decide +kernel) ?_
        refine pz_mul (by decide +kernel) rfl kz_9 (by omega) (by omega) (fun z6 hz6 => ?_)
        refine pe_iload_n (j := 1) (by decide +kernel) rfl ?_
        refine pz_add (by decide +kernel) hz6 rfl (by omega) (by omega) (fun z7 hz7 => ?_)
        clear hz6
        refine pe_iret (by decide +kernel) rfl rfl ⟨rfl, rfl, ?_⟩
        show pmE pg X pg_tyl pg_cl (d + 1) 112 28 [.ref 42, .int x6, .int x4, .int x3] [.int z7] (cd f A R wr) _
        refine pe_iret (by decide +kernel) rfl rfl ⟨rfl, rfl, ?_⟩
        show pmE pg X pg_tyl pg_cl (d + 2) 111 137 [.ref 42, .int x1, .int x2, .int x3, .int x4, .int x5, .int x6] [.int z7, .ref 43] (cd f A R wr) _
        refine pe_dup2 (by decide +kernel) ⟨rfl, rfl⟩ ?_
        refine pz_iald (by decide +kernel) cd_a43 (cl_43 hI) hz7 (by omega) (by omega) (fun v8 ev8 => ?_)
        refine pe_iload (j := 5) (by decide +kernel) rfl ?_
        refine pw_sub (by decide +kernel) (fun z9 => ?_)
        refine cz_st43 (by decide +kernel) hI hz7 (by omega) (by omega) (fun A10 eA10 hIA10 => ?_)
        refine pz_iinc (j := 6) (n := 1) (by decide +kernel) rfl rfl (by decide +kernel) (by omega) (by omega) (fun z11 hz11 => ?_)
        show pmE pg X pg_tyl pg_cl (d + 2) 111 146 [.ref 42, .int x1, .int x2, .int x3, .int x4, .int x5, .int z11] [] (cd f A10 R wr) _
        refine pe_goto (off := (-28)) (t := 118) (by decide +kernel) (by decide) rfl ?_
        exact ih A10 z11 hIA10 (fun k n43 => (upa_fr eA10 n43).trans ((hF k n43))) (by omega) (by omega)
      · skip
        clear hz3
        refine pe_iload_n (j := 1) (by decide +kernel) rfl ?_
        refine pe_iconstv (n := 1) (v := 1) (by decide +kernel) (by decide +kernel) ?_
        refine pz_add (by decide +kernel) rfl kz_1 (by omega) (by omega) (fun z12 hz12 => ?_)
        refine pe_goto (off := 4) (t := 24) (by decide +kernel) (by decide) rfl ?_
        refine pz_iald (by decide +kernel) cd_a44 (cl_44 hI) hz12 (by omega) (by omega) (fun v13 ev13 => ?_)
        have rv13 : 0 ≤ v13.toInt ∧ v13.toInt ≤ 8 := ct_44 hI ev13
        rw [show A 44 = A0 44 from (hF 44 (by decide))] at ev13
        clear hz12
        refine pi_S (j := 35) (mj := 52) (by decide +kernel) (by decide +kernel) rfl ?_
        show pmE pg X pg_tyl pg_cl (d) 52 0 [.int v2, .int v13] [] (cd f A R wr) _
        refine pe_iload_n (j := 0) (by decide +kernel) rfl ?_
        refine pe_bipushv (n := 9) (v := 9) (by decide +kernel) (by decide +kernel) ?_
        refine pz_mul (by decide +kernel) rfl kz_9 (by omega) (by omega) (fun z14 hz14 => ?_)
        refine pe_iload_n (j := 1) (by decide +kernel) rfl ?_
        refine pz_add (by decide +kernel) hz14 rfl (by omega) (by omega) (fun z15 hz15 => ?_)
        clear hz14
        refine pe_iret (by decide +kernel) rfl rfl ⟨rfl, rfl, ?_⟩
        show pmE pg X pg_tyl pg_cl (d + 1) 112 28 [.ref 42, .int x6, .int x4, .int x3] [.int z15] (cd f A R wr) _
        refine pe_iret (by decide +kernel) rfl rfl ⟨rfl, rfl, ?_⟩
        show pmE pg X pg_tyl pg_cl (d + 2) 111 137 [.ref 42, .int x1, .int x2, .int x3, .int x4, .int x5, .int x6] [.int z15, .ref 43] (cd f A R wr) _
        refine pe_dup2 (by decide +kernel) ⟨rfl, rfl⟩ ?_
        refine pz_iald (by decide +kernel) cd_a43 (cl_43 hI) hz15 (by omega) (by omega) (fun v16 ev16 => ?_)
        refine pe_iload (j := 5) (by decide +kernel) rfl ?_
        refine pw_sub (by decide +kernel) (fun z17 => ?_)
        refine cz_st43 (by decide +kernel) hI hz15 (by omega) (by omega) (fun A18 eA18 hIA18 => ?_)
        refine pz_iinc (j := 6) (n := 1) (by decide +kernel) rfl rfl (by decide +kernel) (by omega) (by omega) (fun z19 hz19 => ?_)
        show pmE pg X pg_tyl pg_cl (d + 2) 111 146 [.ref 42, .int x1, .int x2, .int x3, .int x4, .int x5, .int z19] [] (cd f A18 R wr) _
        refine pe_goto (off := (-28)) (t := 118) (by decide +kernel) (by decide) rfl ?_
        exact ih A18 z19 hIA18 (fun k n43 => (upa_fr eA18 n43).trans ((hF k n43))) (by omega) (by omega)
set_option maxRecDepth 100000 in
set_option maxHeartbeats 8000000 in
theorem CL_111_81 {X : pm_X} {d : Nat} {wr : pm_W} {Q : pm_R → Prop} {f : Nat → Int32} {A : Nat → List Int32} {R : Nat → Value} {x1 x2 x3 x4 : Int32} (hX : XO X) (hI : CI f A R) (gx1 : (0 ≤ x1.toInt ∧ x1.toInt ≤ 8)) (gx2 : (0 ≤ x2.toInt ∧ x2.toInt ≤ 8)) (gx3 : (0 ≤ x3.toInt ∧ x3.toInt ≤ 9)) (gx4 : (0 ≤ x4.toInt ∧ x4.toInt ≤ 8)) (k_114_0 : ∀ (y5 : Int32) (y6 : Int32), (y5.toInt ≤ 1000000) → (0 ≤ y6.toInt ∧ y6.toInt ≤ 9) → x3.toInt ≤ y6.toInt → pmE pg X pg_tyl pg_cl (d + 2) 111 114 [.ref 42, .int x1, .int x2, .int x3, .int x4, .int y5, .int y6] [] (cd f A R wr) Q) : ∀ (m : Nat) (x5 : Int32) (x6 : Int32), (x5.toInt ≤ 1000000) → (0 ≤ x6.toInt ∧ x6.toInt ≤ 9) → 9 - x6.toInt < (m : Int) → pmE pg X pg_tyl pg_cl (d + 2) 111 81 [.ref 42, .int x1, .int x2, .int x3, .int x4, .int x5, .int x6] [] (cd f A R wr) Q := by
  intro m
  induction m with
  | zero =>
    intro x5 x6 gx5 gx6 hm
    exfalso
    have l0 := zi_lo x6
    have u0 := zi_hi x6
    omega
  | succ m ih =>
    intro x5 x6 gx5 gx6 hm
    refine pe_iload (j := 6) (by decide +kernel) rfl ?_
    refine pe_iload_n (j := 3) (by decide +kernel) rfl ?_
    refine pz_icmp_ge (off := 30) (t := 114) (by decide +kernel) (by decide) rfl rfl rfl (fun h1 => ?_) (fun h1 => ?_)
    · skip
      exact k_114_0 x5 x6 (by omega) (by omega) (by omega)
    · skip
      refine pe_iload (j := 5) (by decide +kernel) rfl ?_
      refine pe_aload_n (j := 0) (by decide +kernel) rfl ?_
      refine pe_get (j := 9) (ci := 1) (n := 0) (by decide +kernel) (by decide +kernel) cd_o42 rfl ?_
      refine pe_aload_n (j := 0) (by decide +kernel) rfl ?_
      refine pe_iload (j := 6) (by decide +kernel) rfl ?_
      refine pe_iload (j := 4) (by decide +kernel) rfl ?_
      refine pe_iload_n (j := 3) (by decide +kernel) rfl ?_
      refine pi_V (j := 104) (mj := 112) (by decide +kernel) (cll_V (args := [.int x3, .int x4, .int x6]) (n := 3) (by decide +kernel) rfl rfl cd_o42 (by decide +kernel) (Nat.le_of_ble_eq_true rfl) (Nat.le_of_ble_eq_true rfl)) ?_
      show pmE pg X pg_tyl pg_cl (d + 1) 112 0 [.ref 42, .int x6, .int x4, .int x3] [] (cd f A R wr) _
      refine pe_aload_n (j := 0) (by decide +kernel) rfl ?_
      refine pe_get (j := 15) (ci := 1) (n := 1) (by decide +kernel) (by decide +kernel) cd_o42 rfl ?_
      refine pe_iload_n (j := 1) (by decide +kernel) rfl ?_
      refine pz_iald (by decide +kernel) cd_a44 (cl_44 hI) rfl (by omega) (by omega) (fun v2 ev2 => ?_)
      have rv2 : 0 ≤ v2.toInt ∧ v2.toInt ≤ 8 := ct_44 hI ev2
      refine pe_aload_n (j := 0) (by decide +kernel) rfl ?_
      refine pe_get (j := 15) (ci := 1) (n := 1) (by decide +kernel) (by decide +kernel) cd_o42 rfl ?_
      refine pe_iload_n (j := 1) (by decide +kernel) rfl ?_
      refine pe_iconstv (n := 1) (v := 1) (by decide +kernel) (by decide +kernel) ?_
      refine pz_add (by decide +kernel) rfl kz_1 (by omega) (by omega) (fun z3 hz3 => ?_)
      refine pe_iload_n (j := 3) (by decide +kernel) rfl ?_
      refine pz_icmp_ge (off := 9) (t := 23) (by decide +kernel) (by decide) rfl hz3 rfl (fun h4 => ?_) (fun h4 => ?_)
      · skip
        clear hz3
        refine pe_iload_n (j := 2) (by decide +kernel) rfl ?_
        refine pz_iald (by decide +kernel) cd_a44 (cl_44 hI) rfl (by omega) (by omega) (fun v5 ev5 => ?_)
        have rv5 : 0 ≤ v5.toInt ∧ v5.toInt ≤ 8 := ct_44 hI ev5
        refine pi_S (j := 35) (mj := 52) (by decide +kernel) (by decide +kernel) rfl ?_
        show pmE pg X pg_tyl pg_cl (d) 52 0 [.int v2, .int v5] [] (cd f A R wr) _
        refine pe_iload_n (j := 0) (by decide +kernel) rfl ?_
        refine pe_bipushv (n := 9) (v := 9) (by decide +kernel) (by decide +kernel) ?_
        refine pz_mul (by decide +kernel) rfl kz_9 (by omega) (by omega) (fun z6 hz6 => ?_)
        refine pe_iload_n (j := 1) (by decide +kernel) rfl ?_
        refine pz_add (by decide +kernel) hz6 rfl (by omega) (by omega) (fun z7 hz7 => ?_)
        clear hz6
        refine pe_iret (by decide +kernel) rfl rfl ⟨rfl, rfl, ?_⟩
        show pmE pg X pg_tyl pg_cl (d + 1) 112 28 [.ref 42, .int x6, .int x4, .int x3] [.int z7] (cd f A R wr) _
        refine pe_iret (by decide +kernel) rfl rfl ⟨rfl, rfl, ?_⟩
        show pmE pg X pg_tyl pg_cl (d + 2) 111 102 [.ref 42, .int x1, .int x2, .int x3, .int x4, .int x5, .int x6] [.int z7, .ref 43, .int x5] (cd f A R wr) _
        refine pz_iald (by decide +kernel) cd_a43 (cl_43 hI) hz7 (by omega) (by omega) (fun v8 ev8 => ?_)
        clear hz7
        have lw10 := zi_lo x5
        have uw10 := zi_hi x5
        have lw11 := zi_lo v8
        have uw11 := zi_hi v8
        refine pz_min (j := 39) (c := (-2147483648)) (by decide +kernel) (by decide +kernel) (Nat.le_of_ble_eq_true rfl) rfl rfl (by omega) (by omega) (fun z9 hz9 => ?_)
        refine pe_istore (j := 5) (ls' := [.ref 42, .int x1, .int x2, .int x3, .int x4, .int z9, .int x6]) (by decide +kernel) (Nat.le_of_ble_eq_true rfl) rfl ?_
        refine pz_iinc (j := 6) (n := 1) (by decide +kernel) rfl rfl (by decide +kernel) (by omega) (by omega) (fun z12 hz12 => ?_)
        show pmE pg X pg_tyl pg_cl (d + 2) 111 111 [.ref 42, .int x1, .int x2, .int x3, .int x4, .int z9, .int z12] [] (cd f A R wr) _
        refine pe_goto (off := (-30)) (t := 81) (by decide +kernel) (by decide) rfl ?_
        exact ih z9 z12 (by omega) (by omega) (by omega)
      · skip
        clear hz3
        refine pe_iload_n (j := 1) (by decide +kernel) rfl ?_
        refine pe_iconstv (n := 1) (v := 1) (by decide +kernel) (by decide +kernel) ?_
        refine pz_add (by decide +kernel) rfl kz_1 (by omega) (by omega) (fun z13 hz13 => ?_)
        refine pe_goto (off := 4) (t := 24) (by decide +kernel) (by decide) rfl ?_
        refine pz_iald (by decide +kernel) cd_a44 (cl_44 hI) hz13 (by omega) (by omega) (fun v14 ev14 => ?_)
        have rv14 : 0 ≤ v14.toInt ∧ v14.toInt ≤ 8 := ct_44 hI ev14
        clear hz13
        refine pi_S (j := 35) (mj := 52) (by decide +kernel) (by decide +kernel) rfl ?_
        show pmE pg X pg_tyl pg_cl (d) 52 0 [.int v2, .int v14] [] (cd f A R wr) _
        refine pe_iload_n (j := 0) (by decide +kernel) rfl ?_
        refine pe_bipushv (n := 9) (v := 9) (by decide +kernel) (by decide +kernel) ?_
        refine pz_mul (by decide +kernel) rfl kz_9 (by omega) (by omega) (fun z15 hz15 => ?_)
        refine pe_iload_n (j := 1) (by decide +kernel) rfl ?_
        refine pz_add (by decide +kernel) hz15 rfl (by omega) (by omega) (fun z16 hz16 => ?_)
        clear hz15
        refine pe_iret (by decide +kernel) rfl rfl ⟨rfl, rfl, ?_⟩
        show pmE pg X pg_tyl pg_cl (d + 1) 112 28 [.ref 42, .int x6, .int x4, .int x3] [.int z16] (cd f A R wr) _
        refine pe_iret (by decide +kernel) rfl rfl ⟨rfl, rfl, ?_⟩
        show pmE pg X pg_tyl pg_cl (d + 2) 111 102 [.ref 42, .int x1, .int x2, .int x3, .int x4, .int x5, .int x6] [.int z16, .ref 43, .int x5] (cd f A R wr) _
        refine pz_iald (by decide +kernel) cd_a43 (cl_43 hI) hz16 (by omega) (by omega) (fun v17 ev17 => ?_)
        clear hz16
        have lw19 := zi_lo x5
        have uw19 := zi_hi x5
        have lw20 := zi_lo v17
        have uw20 := zi_hi v17
        refine pz_min (j := 39) (c := (-2147483648)) (by decide +kernel) (by decide +kernel) (Nat.le_of_ble_eq_true rfl) rfl rfl (by omega) (by omega) (fun z18 hz18 => ?_)
        refine pe_istore (j := 5) (ls' := [.ref 42, .int x1, .int x2, .int x3, .int x4, .int z18, .int x6]) (by decide +kernel) (Nat.le_of_ble_eq_true rfl) rfl ?_
        refine pz_iinc (j := 6) (n := 1) (by decide +kernel) rfl rfl (by decide +kernel) (by omega) (by omega) (fun z21 hz21 => ?_)
        show pmE pg X pg_tyl pg_cl (d + 2) 111 111 [.ref 42, .int x1, .int x2, .int x3, .int x4, .int z18, .int z21] [] (cd f A R wr) _
        refine pe_goto (off := (-30)) (t := 81) (by decide +kernel) (by decide) rfl ?_
        exact ih z18 z21 (by omega) (by omega) (by omega)
set_option maxRecDepth 100000 in
set_option maxHeartbeats 8000000 in
theorem CL_111_12 {X : pm_X} {d : Nat} {wr : pm_W} {Q : pm_R → Prop} {f : Nat → Int32} {A0 : Nat → List Int32} {R : Nat → Value} {x1 : Int32} (hX : XO X) (gx1 : (0 ≤ x1.toInt ∧ x1.toInt ≤ 8)) (k_59_0 : ∀ (A' : Nat → List Int32) (y2 : Int32) (y3 : Int32), CI f A' R → (∀ k : Nat, k ≠ 44 → k ≠ 45 → A' k = A0 k) → ((-1) ≤ y2.toInt ∧ y2.toInt ≤ 8) → (9 ≤ y3.toInt ∧ y3.toInt ≤ 9) → ((cnn (A' 45) : Nat) : Int) = y3.toInt → (∀ j : Int, 0 ≤ j → j < 9 → 0 ≤ ((A' 45).getD j.toNat 0).toInt ∧ ((A' 45).getD j.toNat 0).toInt ≤ 8) → pmE pg X pg_tyl pg_cl (d + 2) 111 59 [.ref 42, .int x1, .int y2, .int y3, pm_dead, pm_dead, pm_dead] [] (cd f A' R wr) Q) (k_59_1 : ∀ (A' : Nat → List Int32) (y2 : Int32) (y3 : Int32), CI f A' R → (∀ k : Nat, k ≠ 44 → k ≠ 45 → A' k = A0 k) → ((-1) ≤ y2.toInt ∧ y2.toInt ≤ (-1)) → (0 ≤ y3.toInt ∧ y3.toInt ≤ 8) → ((cnn (A' 45) : Nat) : Int) = y3.toInt → pmE pg X pg_tyl pg_cl (d + 2) 111 59 [.ref 42, .int x1, .int y2, .int y3, pm_dead, pm_dead, pm_dead] [] (cd f A' R wr) Q) (k_59_2 : ∀ (A' : Nat → List Int32) (y2 : Int32) (y3 : Int32), CI f A' R → (∀ k : Nat, k ≠ 44 → k ≠ 45 → A' k = A0 k) → (0 ≤ y2.toInt ∧ y2.toInt ≤ 8) → (0 ≤ y3.toInt ∧ y3.toInt ≤ 8) → ((cnn (A' 45) : Nat) : Int) = y3.toInt → (∀ j : Int, y2.toInt ≤ j → j < y2.toInt + 1 → 0 ≤ ((A' 45).getD j.toNat 0).toInt ∧ ((A' 45).getD j.toNat 0).toInt ≤ 8) → pmE pg X pg_tyl pg_cl (d + 2) 111 59 [.ref 42, .int x1, .int y2, .int y3, pm_dead, pm_dead, pm_dead] [] (cd f A' R wr) Q) : ∀ (m : Nat) (A : Nat → List Int32) (x2 : Int32) (x3 : Int32), CI f A R → (∀ k : Nat, k ≠ 44 → k ≠ 45 → A k = A0 k) → ((-1) ≤ x2.toInt ∧ x2.toInt ≤ 8) → (0 ≤ x3.toInt ∧ x3.toInt ≤ 9) → ((cnn (A 45) : Nat) : Int) = x3.toInt → 9 - x3.toInt < (m : Int) → pmE pg X pg_tyl pg_cl (d + 2) 111 12 [.ref 42, .int x1, .int x2, .int x3, pm_dead, pm_dead, pm_dead] [] (cd f A R wr) Q := by
  intro m
  induction m with
  | zero =>
    intro A x2 x3 hI hF gx2 gx3 hpi0 hm
    exfalso
    have l0 := zi_lo x3
    have u0 := zi_hi x3
    omega
  | succ m ih =>
    intro A x2 x3 hI hF gx2 gx3 hpi0 hm
    refine pe_iload_n (j := 3) (by decide +kernel) rfl ?_
    refine pe_bipushv (n := 9) (v := 9) (by decide +kernel) (by decide +kernel) ?_
    refine pz_icmp_ge (off := 44) (t := 59) (by decide +kernel) (by decide) rfl rfl kz_9 (fun h1 => ?_) (fun h1 => ?_)
    · skip
      exact k_59_0 A x2 x3 hI (fun k n44 n45 => (hF k n44 n45)) (by omega) (by omega) (by omega) (fun j h1 h2 => ⟨cnn_all hpi0 (by rw [(cl_45 hI)]; omega) (by rw [(cl_45 hI)]; omega), (ct_45 hI rfl).2⟩)
    · skip
      refine pe_iload_n (j := 2) (by decide +kernel) rfl ?_
      refine pe_iconstv (n := (-1)) (v := (-1)) (by decide +kernel) (by decide +kernel) ?_
      refine pz_icmp_eq (off := 39) (t := 59) (by decide +kernel) (by decide) rfl rfl kz_m1 (fun h2 => ?_) (fun h2 => ?_)
      · skip
        exact k_59_1 A x2 x3 hI (fun k n44 n45 => (hF k n44 n45)) (by omega) (by omega) (by omega)
      · skip
        refine pe_aload_n (j := 0) (by decide +kernel) rfl ?_
        refine pe_get (j := 18) (ci := 1) (n := 2) (by decide +kernel) (by decide +kernel) cd_o42 rfl ?_
        refine pe_iload_n (j := 2) (by decide +kernel) rfl ?_
        refine pz_iald (by decide +kernel) cd_a45 (cl_45 hI) rfl (by omega) (by omega) (fun v3 ev3 => ?_)
        have rv3 : (-1) ≤ v3.toInt ∧ v3.toInt ≤ 8 := ct_45 hI ev3
        refine pe_iconstv (n := (-1)) (v := (-1)) (by decide +kernel) (by decide +kernel) ?_
        refine pz_icmp_ne (off := 29) (t := 59) (by decide +kernel) (by decide) rfl rfl kz_m1 (fun h4 => ?_) (fun h4 => ?_)
        · skip
          exact k_59_2 A x2 x3 hI (fun k n44 n45 => (hF k n44 n45)) (by omega) (by omega) (by omega) (fun j h1 h2 => by rw [(by omega : j = x2.toInt), ← ev3]; omega)
        · skip
          refine pe_aload_n (j := 0) (by decide +kernel) rfl ?_
          refine pe_get (j := 18) (ci := 1) (n := 2) (by decide +kernel) (by decide +kernel) cd_o42 rfl ?_
          refine pe_iload_n (j := 2) (by decide +kernel) rfl ?_
          refine pe_iload_n (j := 3) (by decide +kernel) rfl ?_
          refine cz_st45 (by decide +kernel) hI rfl (by omega) (by omega) (by simp only [CT]; omega) (fun A5 eA5 hIA5 => ?_)
          refine pe_aload_n (j := 0) (by decide +kernel) rfl ?_
          refine pe_get (j := 15) (ci := 1) (n := 1) (by decide +kernel) (by decide +kernel) cd_o42 rfl ?_
          refine pe_iload_n (j := 3) (by decide +kernel) rfl ?_
          refine pe_iload_n (j := 2) (by decide +kernel) rfl ?_
          refine cz_st44 (by decide +kernel) hIA5 rfl (by omega) (by omega) (by simp only [CT]; omega) (fun A6 eA6 hIA6 => ?_)
          refine pz_iinc (j := 3) (n := 1) (by decide +kernel) rfl rfl (by decide +kernel) (by omega) (by omega) (fun z7 hz7 => ?_)
          show pmE pg X pg_tyl pg_cl (d + 2) 111 50 [.ref 42, .int x1, .int x2, .int z7, pm_dead, pm_dead, pm_dead] [] (cd f A6 R wr) _
          refine pe_aload_n (j := 0) (by decide +kernel) rfl ?_
          refine pe_iload_n (j := 2) (by decide +kernel) rfl ?_
          refine pz_callV (j := 93) (mj := 110) (by decide +kernel) (cll_V (args := [.int x2]) (n := 1) (by decide +kernel) rfl rfl cd_o42 (by decide +kernel) (Nat.le_of_ble_eq_true rfl) (Nat.le_of_ble_eq_true rfl)) (CM_110 hX hIA6 (by omega)) (fun q8a q8b q8c q8d hqq8 => ?_)
          obtain ⟨rq8, eq8, kq8⟩ := hqq8
          cases eq8
          refine ⟨rfl, rfl, ?_⟩
          show pmE pg X pg_tyl pg_cl (d + 2) 111 55 [.ref 42, .int x1, .int x2, .int z7, pm_dead, pm_dead, pm_dead] [.int rq8] (cd f A6 R wr) _
          refine pe_istore_n (j := 2) (ls' := [.ref 42, .int x1, .int rq8, .int z7, pm_dead, pm_dead, pm_dead]) (by decide +kernel) (Nat.le_of_ble_eq_true rfl) rfl ?_
          refine pe_goto (off := (-44)) (t := 12) (by decide +kernel) (by decide) rfl ?_
          exact ih A6 rq8 z7 hIA6 (fun k n44 n45 => (upa_fr eA6 n44).trans ((upa_fr eA5 n45).trans ((hF k n44 n45)))) (by omega) (by omega) (by rw [show A6 45 = A5 45 from upa_fr eA6 (by decide)]; have hcs := cnn_set (xs := A 45) (i := (x2.toInt).toNat) (v := x3) (by rw [(cl_45 hI)]; omega) (by rw [← ev3]; omega) (by omega); rw [upa_at eA5, hcs]; omega) (by omega)
set_option maxRecDepth 100000 in
set_option maxHeartbeats 8000000 in
theorem CM_111 {X : pm_X} {d : Nat} {wr : pm_W} {f : Nat → Int32} {A : Nat → List Int32} {R : Nat → Value} {x1 : Int32} (hX : XO X) (hI : CI f A R) (gx1 : (0 ≤ x1.toInt ∧ x1.toInt ≤ 8)) : pmE pg X pg_tyl pg_cl (d + 2) 111 0 (pm_ent (pm_max pg 111) [.ref 42, .int x1]) [] (cd f A R wr) (fun q => ∃ (A' : Nat → List Int32), q = (none, cd f A' R wr, 0, 0) ∧ CI f A' R ∧ (∀ k : Nat, k ≠ 43 → k ≠ 44 → k ≠ 45 → A' k = A k) ∧ ((True))) := by
  show pmE pg X pg_tyl pg_cl (d + 2) 111 0 [.ref 42, .int x1, pm_dead, pm_dead, pm_dead, pm_dead, pm_dead] [] (cd f A R wr) _
  refine pe_aload_n (j := 0) (by decide +kernel) rfl ?_
  refine pe_get (j := 18) (ci := 1) (n := 2) (by decide +kernel) (by decide +kernel) cd_o42 rfl ?_
  refine pe_iconstv (n := (-1)) (v := (-1)) (by decide +kernel) (by decide +kernel) ?_
  refine cz_fill (j := 97) (k := 45) (n := 9) (by decide +kernel) (by decide +kernel) rfl cd_a45 (fun _ => cd_s45) hI (cl_45 hI) (by decide +kernel) (ct_one (kd := 3) (P := fun kd => ∀ i, CT kd i ((List.replicate 9 ((-1) : Int32)).getD i 0).toInt) (by decide +kernel) (fun i => rep_P (P := fun z => CT 3 i z.toInt) ct3_m ct3_z)) (fun A1 eA1 hIA1 => ?_)
  refine pe_iload_n (j := 1) (by decide +kernel) rfl ?_
  refine pe_istore_n (j := 2) (ls' := [.ref 42, .int x1, .int x1, pm_dead, pm_dead, pm_dead, pm_dead]) (by decide +kernel) (Nat.le_of_ble_eq_true rfl) rfl ?_
  refine pe_iconstv (n := 0) (v := 0) (by decide +kernel) (by decide +kernel) ?_
  refine pe_istore_n (j := 3) (ls' := [.ref 42, .int x1, .int x1, .int 0, pm_dead, pm_dead, pm_dead]) (by decide +kernel) (Nat.le_of_ble_eq_true rfl) rfl ?_
  refine CL_111_12 hX (by omega) (fun A2 y3 y4 hIy5 hFA2 gy3 gy4 hp6 hp7 => ?_) (fun A8 y9 y10 hIy11 hFA8 gy9 gy10 hp12 => ?_) (fun A13 y14 y15 hIy16 hFA13 gy14 gy15 hp17 hp18 => ?_) 10 A1 x1 0 hIA1 (fun k _ _ => rfl) (by omega) (by decide +kernel) (by rw [upa_at eA1, cnn_rep]; decide +kernel) (by decide +kernel)
  · skip
    refine pe_iload_n (j := 2) (by decide +kernel) rfl ?_
    refine pe_iconstv (n := (-1)) (v := (-1)) (by decide +kernel) (by decide +kernel) ?_
    refine pz_icmp_ne (off := 4) (t := 65) (by decide +kernel) (by decide) rfl rfl kz_m1 (fun h19 => ?_) (fun h19 => ?_)
    · skip
      refine pe_aload_n (j := 0) (by decide +kernel) rfl ?_
      refine pe_get (j := 18) (ci := 1) (n := 2) (by decide +kernel) (by decide +kernel) cd_o42 rfl ?_
      refine pe_iload_n (j := 2) (by decide +kernel) rfl ?_
      refine pz_iald (by decide +kernel) cd_a45 (cl_45 hIy5) rfl (by omega) (by omega) (fun v20 ev20 => ?_)
      have rv20 : (-1) ≤ v20.toInt ∧ v20.toInt ≤ 8 := ct_45 hIy5 ev20
      have rq21 := hp7 y3.toInt (by omega) (by omega)
      rw [← ev20] at rq21
      refine pe_istore (j := 4) (ls' := [.ref 42, .int x1, .int y3, .int y4, .int v20, pm_dead, pm_dead]) (by decide +kernel) (Nat.le_of_ble_eq_true rfl) rfl ?_
      refine pe_ldc (j := 103) (v := 1000000) (by decide +kernel) (by decide +kernel) ?_
      refine pe_istore (j := 5) (ls' := [.ref 42, .int x1, .int y3, .int y4, .int v20, .int 1000000, pm_dead]) (by decide +kernel) (Nat.le_of_ble_eq_true rfl) rfl ?_
      refine pe_iload (j := 4) (by decide +kernel) rfl ?_
      refine pe_istore (j := 6) (ls' := [.ref 42, .int x1, .int y3, .int y4, .int v20, .int 1000000, .int v20]) (by decide +kernel) (Nat.le_of_ble_eq_true rfl) rfl ?_
      refine CL_111_81 hX hIy5 (by omega) (by omega) (by omega) (by omega) (fun y22 y23 gy22 gy23 hr24 => ?_) 10 1000000 v20 (by decide +kernel) (by omega) (by have l0 := zi_lo v20; have u0 := zi_hi v20; omega)
      refine pe_iload (j := 4) (by decide +kernel) rfl ?_
      refine pe_istore (j := 6) (ls' := [.ref 42, .int x1, .int y3, .int y4, .int v20, .int y22, .int v20]) (by decide +kernel) (Nat.le_of_ble_eq_true rfl) rfl ?_
      refine CL_111_118 hX (by omega) (by omega) (by omega) (by omega) (by omega) (fun A25 y26 hIy27 hFA25 gy26 hr28 => ?_) 10 A2 v20 hIy5 (fun k _ => rfl) (by omega) (by have l0 := zi_lo v20; have u0 := zi_hi v20; omega)
      exact pe_vret (by decide +kernel) rfl ⟨A25, rfl, hIy27, (fun k n43 n44 n45 => ((hFA25 k n43)).trans (((hFA2 k n44 n45)).trans (upa_fr eA1 n45))), trivial⟩
    · skip
      exact pe_vret (by decide +kernel) rfl ⟨A2, rfl, hIy5, (fun k n43 n44 n45 => ((hFA2 k n44 n45)).trans (upa_fr eA1 n45)), trivial⟩
  · skip
    refine pe_iload_n (j := 2) (by decide +kernel) rfl ?_
    refine pe_iconstv (n := (-1)) (v := (-1)) (by decide +kernel) (by decide +kernel) ?_
    refine pz_icmp_ne (off := 4) (t := 65) (by decide +kernel) (by decide) rfl rfl kz_m1 (fun h29 => by omega) (fun h29 => ?_)
    exact pe_vret (by decide +kernel) rfl ⟨A8, rfl, hIy11, (fun k n43 n44 n45 => ((hFA8 k n44 n45)).trans (upa_fr eA1 n45)), trivial⟩
  · skip
    refine pe_iload_n (j := 2) (by decide +kernel) rfl ?_
    refine pe_iconstv (n := (-1)) (v := (-1)) (by decide +kernel) (by decide +kernel) ?_
    refine pz_icmp_ne (off := 4) (t := 65) (by decide +kernel) (by decide) rfl rfl kz_m1 (fun h30 => ?_) (fun h30 => by omega)
    refine pe_aload_n (j := 0) (by decide +kernel) rfl ?_
    refine pe_get (j := 18) (ci := 1) (n := 2) (by decide +kernel) (by decide +kernel) cd_o42 rfl ?_
    refine pe_iload_n (j := 2) (by decide +kernel) rfl ?_
    refine pz_iald (by decide +kernel) cd_a45 (cl_45 hIy16) rfl (by omega) (by omega) (fun v31 ev31 => ?_)
    have rv31 : (-1) ≤ v31.toInt ∧ v31.toInt ≤ 8 := ct_45 hIy16 ev31
    have rq32 := hp18 y14.toInt (by omega) (by omega)
    rw [← ev31] at rq32
    refine pe_istore (j := 4) (ls' := [.ref 42, .int x1, .int y14, .int y15, .int v31, pm_dead, pm_dead]) (by decide +kernel) (Nat.le_of_ble_eq_true rfl) rfl ?_
    refine pe_ldc (j := 103) (v := 1000000) (by decide +kernel) (by decide +kernel) ?_
    refine pe_istore (j := 5) (ls' := [.ref 42, .int x1, .int y14, .int y15, .int v31, .int 1000000, pm_dead]) (by decide +kernel) (Nat.le_of_ble_eq_true rfl) rfl ?_
    refine pe_iload (j := 4) (by decide +kernel) rfl ?_
    refine pe_istore (j := 6) (ls' := [.ref 42, .int x1, .int y14, .int y15, .int v31, .int 1000000, .int v31]) (by decide +kernel) (Nat.le_of_ble_eq_true rfl) rfl ?_
    refine CL_111_81 hX hIy16 (by omega) (by omega) (by omega) (by omega) (fun y33 y34 gy33 gy34 hr35 => ?_) 10 1000000 v31 (by decide +kernel) (by omega) (by have l0 := zi_lo v31; have u0 := zi_hi v31; omega)
    refine pe_iload (j := 4) (by decide +kernel) rfl ?_
    refine pe_istore (j := 6) (ls' := [.ref 42, .int x1, .int y14, .int y15, .int v31, .int y33, .int v31]) (by decide +kernel) (Nat.le_of_ble_eq_true rfl) rfl ?_
    refine CL_111_118 hX (by omega) (by omega) (by omega) (by omega) (by omega) (fun A36 y37 hIy38 hFA36 gy37 hr39 => ?_) 10 A13 v31 hIy16 (fun k _ => rfl) (by omega) (by have l0 := zi_lo v31; have u0 := zi_hi v31; omega)
    exact pe_vret (by decide +kernel) rfl ⟨A36, rfl, hIy38, (fun k n43 n44 n45 => ((hFA36 k n43)).trans (((hFA13 k n44 n45)).trans (upa_fr eA1 n45))), trivial⟩
set_option maxRecDepth 100000 in
set_option maxHeartbeats 8000000 in
theorem CL_108_29 {X : pm_X} {d : Nat} {wr : pm_W} {Q : pm_R → Prop} {f : Nat → Int32} {A0 : Nat → List Int32} {R : Nat → Value} {v : Nat} (hX : XO X) (hv : VV v) (hR0 : R 0 = .ref v) (k_65_0 : ∀ (A' : Nat → List Int32) (y2 : Int32) (y3 : Int32) (v4 : Value), CI f A' R → (∀ k : Nat, k ≠ 43 → k ≠ 44 → k ≠ 45 → A' k = A0 k) → (0 ≤ y3.toInt ∧ y3.toInt ≤ 81) → pmE pg X pg_tyl pg_cl (d + 3) 108 65 [.ref 42, .ref 33, .int y2, .int y3, v4] [] (cd f A' R wr) Q) : ∀ (m : Nat) (A : Nat → List Int32) (x2 : Int32) (x3 : Int32) (u4 : Value), CI f A R → (∀ k : Nat, k ≠ 43 → k ≠ 44 → k ≠ 45 → A k = A0 k) → (0 ≤ x3.toInt ∧ x3.toInt ≤ 81) → 81 - x3.toInt < (m : Int) → pmE pg X pg_tyl pg_cl (d + 3) 108 29 [.ref 42, .ref 33, .int x2, .int x3, u4] [] (cd f A R wr) Q := by
  have bv := VV_b hv
  intro m
  induction m with
  | zero =>
    intro A x2 x3 u4 hI hF gx3 hm
    exfalso
    have l0 := zi_lo x3
    have u0 := zi_hi x3
    omega
  | succ m ih =>
    intro A x2 x3 u4 hI hF gx3 hm
    refine pe_iload_n (j := 3) (by decide +kernel) rfl ?_
    refine pe_bipushv (n := 81) (v := 81) (by decide +kernel) (by decide +kernel) ?_
    refine pz_icmp_ge (off := 33) (t := 65) (by decide +kernel) (by decide) rfl rfl kz_81 (fun h1 => ?_) (fun h1 => ?_)
    · skip
      exact k_65_0 A x2 x3 (u4) hI (fun k n43 n44 n45 => (hF k n43 n44 n45)) (by omega)
    · skip
      refine pe_aload_n (j := 0) (by decide +kernel) rfl ?_
      refine pz_callV (j := 86) (mj := 109) (by decide +kernel) (cll_V (args := []) (n := 0) (by decide +kernel) rfl rfl cd_o42 (by decide +kernel) (Nat.le_of_ble_eq_true rfl) (Nat.le_of_ble_eq_true rfl)) (CM_109 hX hI) (fun q2a q2b q2c q2d hqq2 => ?_)
      obtain ⟨rq2, eq2, kq2⟩ := hqq2
      cases eq2
      refine ⟨rfl, rfl, ?_⟩
      show pmE pg X pg_tyl pg_cl (d + 3) 108 39 [.ref 42, .ref 33, .int x2, .int x3, u4] [.int rq2] (cd f A R wr) _
      refine pe_istore (j := 4) (ls' := [.ref 42, .ref 33, .int x2, .int x3, .int rq2]) (by decide +kernel) (Nat.le_of_ble_eq_true rfl) rfl ?_
      refine pe_iload (j := 4) (by decide +kernel) rfl ?_
      refine pe_iconstv (n := (-1)) (v := (-1)) (by decide +kernel) (by decide +kernel) ?_
      refine pz_icmp_ne (off := 6) (t := 50) (by decide +kernel) (by decide) rfl rfl kz_m1 (fun h3 => ?_) (fun h3 => ?_)
      · skip
        refine pe_aload_n (j := 0) (by decide +kernel) rfl ?_
        refine pe_iload (j := 4) (by decide +kernel) rfl ?_
        refine pz_callV (j := 89) (mj := 111) (by decide +kernel) (cll_V (args := [.int rq2]) (n := 1) (by decide +kernel) rfl rfl cd_o42 (by decide +kernel) (Nat.le_of_ble_eq_true rfl) (Nat.le_of_ble_eq_true rfl)) (CM_111 hX hI (by omega)) (fun q4a q4b q4c q4d hqq4 => ?_)
        obtain ⟨A5, eq4, hIq4, hFq4, kq4⟩ := hqq4
        cases eq4
        refine ⟨rfl, rfl, ?_⟩
        show pmE pg X pg_tyl pg_cl (d + 3) 108 56 [.ref 42, .ref 33, .int x2, .int x3, .int rq2] [] (cd f A5 R wr) _
        refine pw_iinc (j := 2) (n := 1) (by decide +kernel) rfl (fun z6 => ?_)
        show pmE pg X pg_tyl pg_cl (d + 3) 108 59 [.ref 42, .ref 33, .int z6, .int x3, .int rq2] [] (cd f A5 R wr) _
        refine pz_iinc (j := 3) (n := 1) (by decide +kernel) rfl rfl (by decide +kernel) (by omega) (by omega) (fun z7 hz7 => ?_)
        show pmE pg X pg_tyl pg_cl (d + 3) 108 62 [.ref 42, .ref 33, .int z6, .int z7, .int rq2] [] (cd f A5 R wr) _
        refine pe_goto (off := (-33)) (t := 29) (by decide +kernel) (by decide) rfl ?_
        exact ih A5 z6 z7 (.int rq2) hIq4 (fun k n43 n44 n45 => ((hFq4 k n43 n44 n45)).trans ((hF k n43 n44 n45))) (by omega) (by omega)
      · skip
        refine pe_goto (off := 18) (t := 65) (by decide +kernel) (by decide) rfl ?_
        exact k_65_0 A x2 x3 (.int rq2) hI (fun k n43 n44 n45 => (hF k n43 n44 n45)) (by omega)
set_option maxRecDepth 100000 in
set_option maxHeartbeats 8000000 in
theorem CM_108 {X : pm_X} {d : Nat} {wr : pm_W} {f : Nat → Int32} {A : Nat → List Int32} {R : Nat → Value} {v : Nat} (hX : XO X) (hI : CI f A R) (hv : VV v) (hR0 : R 0 = .ref v) : pmE pg X pg_tyl pg_cl (d + 3) 108 0 (pm_ent (pm_max pg 108) [.ref 42, .ref 33]) [] (cd f A R wr) (fun q => ∃ (A' : Nat → List Int32) (r : Int32), q = (some (.int r), cd f A' R wr, 0, 0) ∧ CI f A' R ∧ (∀ k : Nat, k ≠ 43 → k ≠ 44 → k ≠ 45 → A' k = A k) ∧ ((True ∧ True))) := by
  have bv := VV_b hv
  show pmE pg X pg_tyl pg_cl (d + 3) 108 0 [.ref 42, .ref 33, pm_dead, pm_dead, pm_dead] [] (cd f A R wr) _
  refine pe_aload_n (j := 1) (by decide +kernel) rfl ?_
  refine pe_iconstv (n := 0) (v := 0) (by decide +kernel) (by decide +kernel) ?_
  refine pz_callV (j := 77) (mj := 93) (by decide +kernel) (cll_V (args := [.int 0]) (n := 1) (by decide +kernel) rfl rfl cd_o33 (by decide +kernel) (Nat.le_of_ble_eq_true rfl) (Nat.le_of_ble_eq_true rfl)) (CM_93 hX hI hv (hR0)) (fun q1a q1b q1c q1d hqq1 => ?_)
  obtain ⟨rq1, eq1, kq1⟩ := hqq1
  cases eq1
  refine ⟨rfl, rfl, ?_⟩
  rcases kq1 with kq1 | kq1
  · skip
    obtain ⟨erq1, kq1⟩ := kq1
    subst erq1
    show pmE pg X pg_tyl pg_cl (d + 3) 108 5 [.ref 42, .ref 33, pm_dead, pm_dead, pm_dead] [.int 0] (cd f A R wr) _
    refine pz_if_ne (off := 5) (t := 10) (by decide +kernel) (by decide) rfl kz_0 (fun h2 => by omega) (fun h2 => ?_)
    refine pe_iconstv (n := (-1)) (v := (-1)) (by decide +kernel) (by decide +kernel) ?_
    exact pe_iret (by decide +kernel) rfl rfl ⟨A, (-1), rfl, hI, (fun k n43 n44 n45 => rfl), ⟨trivial, trivial⟩⟩
  · skip
    obtain ⟨erq1, kq1⟩ := kq1
    subst erq1
    show pmE pg X pg_tyl pg_cl (d + 3) 108 5 [.ref 42, .ref 33, pm_dead, pm_dead, pm_dead] [.int 1] (cd f A R wr) _
    refine pz_if_ne (off := 5) (t := 10) (by decide +kernel) (by decide) rfl kz_1 (fun h3 => ?_) (fun h3 => by omega)
    refine pe_aload_n (j := 1) (by decide +kernel) rfl ?_
    refine pe_get (j := 32) (ci := 7) (n := 3) (by decide +kernel) (by decide +kernel) cd_o33 rfl ?_
    refine pe_iconstv (n := 0) (v := 0) (by decide +kernel) (by decide +kernel) ?_
    refine pe_aload_n (j := 0) (by decide +kernel) rfl ?_
    refine pe_get (j := 9) (ci := 1) (n := 0) (by decide +kernel) (by decide +kernel) cd_o42 rfl ?_
    refine pe_iconstv (n := 0) (v := 0) (by decide +kernel) (by decide +kernel) ?_
    refine pe_bipushv (n := 81) (v := 81) (by decide +kernel) (by decide +kernel) ?_
    have hl4 := kz_81
    have hl5 := kz_0
    have hl6 := kz_0
    refine cz_copy (j := 80) (a := 0) (b := 0) (c := 81) (by decide +kernel) (by decide +kernel) (Nat.le_of_ble_eq_true rfl) cd_a39 cd_a43 (by decide +kernel) (fun _ => cd_s43) hI (cl_39 hI) (cl_43 hI) kz_0 kz_0 kz_81 (by omega) (by omega) (by omega) (by omega) (by omega) (Or.inl rfl) (ct_no (by decide +kernel)) (fun A7 eA7 hIA7 => ?_)
    refine pe_iconstv (n := 0) (v := 0) (by decide +kernel) (by decide +kernel) ?_
    refine pe_istore_n (j := 2) (ls' := [.ref 42, .ref 33, .int 0, pm_dead, pm_dead]) (by decide +kernel) (Nat.le_of_ble_eq_true rfl) rfl ?_
    refine pe_iconstv (n := 0) (v := 0) (by decide +kernel) (by decide +kernel) ?_
    refine pe_istore_n (j := 3) (ls' := [.ref 42, .ref 33, .int 0, .int 0, pm_dead]) (by decide +kernel) (Nat.le_of_ble_eq_true rfl) rfl ?_
    refine CL_108_29 hX hv (hR0) (fun A8 y9 y10 u11 hIy12 hFA8 gy10 => ?_) 82 A7 0 0 (pm_dead) hIA7 (fun k _ _ _ => rfl) (by decide +kernel) (by decide +kernel)
    refine pe_iload_n (j := 2) (by decide +kernel) rfl ?_
    exact pe_iret (by decide +kernel) rfl rfl ⟨A8, y9, rfl, hIy12, (fun k n43 n44 n45 => ((hFA8 k n43 n44 n45)).trans (upa_fr eA7 n43)), ⟨trivial, trivial⟩⟩
set_option maxRecDepth 100000 in
set_option maxHeartbeats 8000000 in
theorem CL_138_4 {X : pm_X} {d : Nat} {wr : pm_W} {Q : pm_R → Prop} {f : Nat → Int32} {A : Nat → List Int32} {R : Nat → Value} {x0 : Int32} (hX : XO X) (hI : CI f A R) (k_21_0 : ∀ (i1 : Int64) (y3 : Int32), (0 ≤ y3.toInt) → pmE pg X pg_tyl pg_cl (d) 138 21 [.int x0, .long i1, pm_dead, .int y3] [] (cd f A R wr) Q) : ∀ (m : Nat) (j1 : Int64) (x3 : Int32), (0 ≤ x3.toInt) → 2147483647 - x3.toInt < (m : Int) → pmE pg X pg_tyl pg_cl (d) 138 4 [.int x0, .long j1, pm_dead, .int x3] [] (cd f A R wr) Q := by
  intro m
  induction m with
  | zero =>
    intro j1 x3 gx3 hm
    exfalso
    have l0 := zi_lo x3
    have u0 := zi_hi x3
    omega
  | succ m ih =>
    intro j1 x3 gx3 hm
    refine pe_iload_n (j := 3) (by decide +kernel) rfl ?_
    refine pe_iload_n (j := 0) (by decide +kernel) rfl ?_
    have lw2 := zi_lo x3
    have uw2 := zi_hi x3
    have lw3 := zi_lo x0
    have uw3 := zi_hi x0
    refine pz_icmp_ge (off := 15) (t := 21) (by decide +kernel) (by decide) rfl rfl rfl (fun h1 => ?_) (fun h1 => ?_)
    · skip
      exact k_21_0 j1 x3 (by omega)
    · skip
      refine pe_lload_n (j := 1) (by decide +kernel) rfl ?_
      refine pw_ldc2 (j := 95) (v := 100) (by decide +kernel) (by decide +kernel) (fun l4 => ?_)
      refine pw_lmul (by decide +kernel) (fun l5 => ?_)
      refine pe_lstore_n (j := 1) (ls' := [.int x0, .long l5, pm_dead, .int x3]) (by decide +kernel) (Nat.le_of_ble_eq_true rfl) rfl ?_
      refine pz_iinc (j := 3) (n := 1) (by decide +kernel) rfl rfl (by decide +kernel) (by omega) (by omega) (fun z6 hz6 => ?_)
      show pmE pg X pg_tyl pg_cl (d) 138 18 [.int x0, .long l5, pm_dead, .int z6] [] (cd f A R wr) _
      refine pe_goto (off := (-14)) (t := 4) (by decide +kernel) (by decide) rfl ?_
      exact ih l5 z6 (by omega) (by omega)
set_option maxRecDepth 100000 in
set_option maxHeartbeats 8000000 in
theorem CM_138 {X : pm_X} {d : Nat} {wr : pm_W} {f : Nat → Int32} {A : Nat → List Int32} {R : Nat → Value} {x0 : Int32} (hX : XO X) (hI : CI f A R) : pmE pg X pg_tyl pg_cl (d) 138 0 (pm_ent (pm_max pg 138) [.int x0]) [] (cd f A R wr) (fun q => ∃ (l : Int64), q = (some (.long l), cd f A R wr, 0, 0) ∧ ((True))) := by
  show pmE pg X pg_tyl pg_cl (d) 138 0 [.int x0, pm_dead, pm_dead, pm_dead] [] (cd f A R wr) _
  refine pw_lconst (n := 1) (by decide +kernel) (fun l1 => ?_)
  refine pe_lstore_n (j := 1) (ls' := [.int x0, .long l1, pm_dead, pm_dead]) (by decide +kernel) (Nat.le_of_ble_eq_true rfl) rfl ?_
  refine pe_iconstv (n := 0) (v := 0) (by decide +kernel) (by decide +kernel) ?_
  refine pe_istore_n (j := 3) (ls' := [.int x0, .long l1, pm_dead, .int 0]) (by decide +kernel) (Nat.le_of_ble_eq_true rfl) rfl ?_
  refine CL_138_4 hX hI (fun l2 y3 gy3 => ?_) 2147483648 l1 0 (by decide +kernel) (by decide +kernel)
  refine pe_lload_n (j := 1) (by decide +kernel) rfl ?_
  exact pe_lret (by decide +kernel) rfl ⟨l2, rfl, trivial⟩
set_option maxRecDepth 100000 in
set_option maxHeartbeats 8000000 in
theorem CM_137 {X : pm_X} {d : Nat} {wr : pm_W} {f : Nat → Int32} {A : Nat → List Int32} {R : Nat → Value} {x1 x2 : Int32} {j3 : Int64} (hX : XO X) (hI : CI f A R) (gx1 : (2 ≤ x1.toInt ∧ x1.toInt ≤ 6)) : pmE pg X pg_tyl pg_cl (d + 1) 137 0 (pm_ent (pm_max pg 137) [.ref 55, .int x1, .int x2, .long j3]) [] (cd f A R wr) (fun q => ∃ (r : Int32), q = (some (.int r), cd f A R wr, 0, 0) ∧ ((r = 0 ∧ True) ∨ (r = 1 ∧ True))) := by
  show pmE pg X pg_tyl pg_cl (d + 1) 137 0 [.ref 55, .int x1, .int x2, .long j3, pm_dead, pm_dead, pm_dead, pm_dead, pm_dead] [] (cd f A R wr) _
  refine pe_aload_n (j := 0) (by decide +kernel) rfl ?_
  refine pe_get (j := 45) (ci := 6) (n := 1) (by decide +kernel) (by decide +kernel) cd_o55 rfl ?_
  refine pe_iconstv (n := 1) (v := 1) (by decide +kernel) (by decide +kernel) ?_
  have lw2 := zi_lo (f 881)
  have uw2 := zi_hi (f 881)
  refine pz_icmp_ne (off := 25) (t := 30) (by decide +kernel) (by decide) rfl rfl kz_1 (fun h1 => ?_) (fun h1 => ?_)
  · skip
    refine pe_aload_n (j := 0) (by decide +kernel) rfl ?_
    refine pe_get (j := 45) (ci := 6) (n := 1) (by decide +kernel) (by decide +kernel) cd_o55 rfl ?_
    refine pe_iconstv (n := 2) (v := 2) (by decide +kernel) (by decide +kernel) ?_
    refine pz_icmp_ne (off := 53) (t := 88) (by decide +kernel) (by decide) rfl rfl kz_2 (fun h3 => ?_) (fun h3 => ?_)
    · skip
      refine pe_iload_n (j := 1) (by decide +kernel) rfl ?_
      refine pe_aload_n (j := 0) (by decide +kernel) rfl ?_
      refine pe_get (j := 56) (ci := 6) (n := 6) (by decide +kernel) (by decide +kernel) cd_o55 rfl ?_
      have hr_f_886 := cf_886 hI
      refine pz_icmp_ge (off := 7) (t := 100) (by decide +kernel) (by decide) rfl rfl rfl (fun h4 => ?_) (fun h4 => ?_)
      · skip
        refine pe_iconstv (n := 0) (v := 0) (by decide +kernel) (by decide +kernel) ?_
        exact pe_iret (by decide +kernel) rfl rfl ⟨0, rfl, Or.inl ⟨rfl, trivial⟩⟩
      · skip
        refine pe_iconstv (n := 1) (v := 1) (by decide +kernel) (by decide +kernel) ?_
        refine pe_goto (off := 4) (t := 101) (by decide +kernel) (by decide) rfl ?_
        exact pe_iret (by decide +kernel) rfl rfl ⟨1, rfl, Or.inr (⟨rfl, trivial⟩)⟩
    · skip
      refine pe_lload_n (j := 3) (by decide +kernel) rfl ?_
      refine pe_bipushv (n := 6) (v := 6) (by decide +kernel) (by decide +kernel) ?_
      refine pe_iload_n (j := 1) (by decide +kernel) rfl ?_
      refine pz_sub (by decide +kernel) kz_6 rfl (by omega) (by omega) (fun z5 hz5 => ?_)
      refine pz_callS (j := 91) (mj := 138) (by decide +kernel) (by decide +kernel) rfl (CM_138 hX hI) (fun q6a q6b q6c q6d hqq6 => ?_)
      obtain ⟨lq6, eq6, kq6⟩ := hqq6
      cases eq6
      refine ⟨rfl, rfl, ?_⟩
      show pmE pg X pg_tyl pg_cl (d + 1) 137 46 [.ref 55, .int x1, .int x2, .long j3, pm_dead, pm_dead, pm_dead, pm_dead, pm_dead] [.long lq6, .long j3] (cd f A R wr) _
      refine pw_lmul (by decide +kernel) (fun l7 => ?_)
      refine pe_lstore (j := 5) (ls' := [.ref 55, .int x1, .int x2, .long j3, pm_dead, .long l7, pm_dead, pm_dead, pm_dead]) (by decide +kernel) (Nat.le_of_ble_eq_true rfl) rfl ?_
      refine pe_aload_n (j := 0) (by decide +kernel) rfl ?_
      refine pe_get (j := 87) (ci := 6) (n := 8) (by decide +kernel) (by decide +kernel) cd_o55 rfl ?_
      obtain ⟨l8, hl8⟩ := hI.2.2.2.1
      refine pe_topV (v := .long l8) (hl8) ?_
      refine pe_bipushv (n := 6) (v := 6) (by decide +kernel) (by decide +kernel) ?_
      refine pe_aload_n (j := 0) (by decide +kernel) rfl ?_
      refine pe_get (j := 56) (ci := 6) (n := 6) (by decide +kernel) (by decide +kernel) cd_o55 rfl ?_
      have hr_f_886 := cf_886 hI
      refine pz_sub (by decide +kernel) kz_6 rfl (by omega) (by omega) (fun z9 hz9 => ?_)
      refine pz_callS (j := 91) (mj := 138) (by decide +kernel) (by decide +kernel) rfl (CM_138 hX hI) (fun q10a q10b q10c q10d hqq10 => ?_)
      obtain ⟨lq10, eq10, kq10⟩ := hqq10
      cases eq10
      refine ⟨rfl, rfl, ?_⟩
      show pmE pg X pg_tyl pg_cl (d + 1) 137 63 [.ref 55, .int x1, .int x2, .long j3, pm_dead, .long l7, pm_dead, pm_dead, pm_dead] [.long lq10, .long l8] (cd f A R wr) _
      refine pw_lmul (by decide +kernel) (fun l11 => ?_)
      refine pe_lstore (j := 7) (ls' := [.ref 55, .int x1, .int x2, .long j3, pm_dead, .long l7, pm_dead, .long l11, pm_dead]) (by decide +kernel) (Nat.le_of_ble_eq_true rfl) rfl ?_
      refine pe_lload (j := 5) (by decide +kernel) rfl ?_
      refine pe_lload (j := 7) (by decide +kernel) rfl ?_
      refine pw_lcmp (by decide +kernel) (fun z12 => ?_)
      have lw14 := zi_lo z12
      have uw14 := zi_hi z12
      refine pz_if_eq (off := 17) (t := 88) (by decide +kernel) (by decide) rfl rfl (fun h13 => ?_) (fun h13 => ?_)
      · skip
        refine pe_iload_n (j := 1) (by decide +kernel) rfl ?_
        refine pe_aload_n (j := 0) (by decide +kernel) rfl ?_
        refine pe_get (j := 56) (ci := 6) (n := 6) (by decide +kernel) (by decide +kernel) cd_o55 rfl ?_
        refine pz_icmp_ge (off := 7) (t := 100) (by decide +kernel) (by decide) rfl rfl rfl (fun h15 => ?_) (fun h15 => ?_)
        · skip
          refine pe_iconstv (n := 0) (v := 0) (by decide +kernel) (by decide +kernel) ?_
          exact pe_iret (by decide +kernel) rfl rfl ⟨0, rfl, Or.inl ⟨rfl, trivial⟩⟩
        · skip
          refine pe_iconstv (n := 1) (v := 1) (by decide +kernel) (by decide +kernel) ?_
          refine pe_goto (off := 4) (t := 101) (by decide +kernel) (by decide) rfl ?_
          exact pe_iret (by decide +kernel) rfl rfl ⟨1, rfl, Or.inr (⟨rfl, trivial⟩)⟩
      · skip
        refine pe_lload (j := 5) (by decide +kernel) rfl ?_
        refine pe_lload (j := 7) (by decide +kernel) rfl ?_
        refine pw_lcmp (by decide +kernel) (fun z16 => ?_)
        have lw18 := zi_lo z16
        have uw18 := zi_hi z16
        refine pz_if_le (off := 7) (t := 86) (by decide +kernel) (by decide) rfl rfl (fun h17 => ?_) (fun h17 => ?_)
        · skip
          refine pe_iconstv (n := 0) (v := 0) (by decide +kernel) (by decide +kernel) ?_
          exact pe_iret (by decide +kernel) rfl rfl ⟨0, rfl, Or.inl ⟨rfl, trivial⟩⟩
        · skip
          refine pe_iconstv (n := 1) (v := 1) (by decide +kernel) (by decide +kernel) ?_
          refine pe_goto (off := 4) (t := 87) (by decide +kernel) (by decide) rfl ?_
          exact pe_iret (by decide +kernel) rfl rfl ⟨1, rfl, Or.inr (⟨rfl, trivial⟩)⟩
  · skip
    refine pe_iload_n (j := 2) (by decide +kernel) rfl ?_
    refine pe_aload_n (j := 0) (by decide +kernel) rfl ?_
    refine pe_get (j := 84) (ci := 6) (n := 7) (by decide +kernel) (by decide +kernel) cd_o55 rfl ?_
    have lw20 := zi_lo x2
    have uw20 := zi_hi x2
    have lw21 := zi_lo (f 887)
    have uw21 := zi_hi (f 887)
    refine pz_icmp_eq (off := 17) (t := 30) (by decide +kernel) (by decide) rfl rfl rfl (fun h19 => ?_) (fun h19 => ?_)
    · skip
      refine pe_aload_n (j := 0) (by decide +kernel) rfl ?_
      refine pe_get (j := 45) (ci := 6) (n := 1) (by decide +kernel) (by decide +kernel) cd_o55 rfl ?_
      refine pe_iconstv (n := 2) (v := 2) (by decide +kernel) (by decide +kernel) ?_
      refine pz_icmp_ne (off := 53) (t := 88) (by decide +kernel) (by decide) rfl rfl kz_2 (fun h22 => ?_) (fun h22 => by omega)
      refine pe_iload_n (j := 1) (by decide +kernel) rfl ?_
      refine pe_aload_n (j := 0) (by decide +kernel) rfl ?_
      refine pe_get (j := 56) (ci := 6) (n := 6) (by decide +kernel) (by decide +kernel) cd_o55 rfl ?_
      have hr_f_886 := cf_886 hI
      refine pz_icmp_ge (off := 7) (t := 100) (by decide +kernel) (by decide) rfl rfl rfl (fun h23 => ?_) (fun h23 => ?_)
      · skip
        refine pe_iconstv (n := 0) (v := 0) (by decide +kernel) (by decide +kernel) ?_
        exact pe_iret (by decide +kernel) rfl rfl ⟨0, rfl, Or.inl ⟨rfl, trivial⟩⟩
      · skip
        refine pe_iconstv (n := 1) (v := 1) (by decide +kernel) (by decide +kernel) ?_
        refine pe_goto (off := 4) (t := 101) (by decide +kernel) (by decide) rfl ?_
        exact pe_iret (by decide +kernel) rfl rfl ⟨1, rfl, Or.inr (⟨rfl, trivial⟩)⟩
    · skip
      refine pe_iload_n (j := 2) (by decide +kernel) rfl ?_
      refine pe_aload_n (j := 0) (by decide +kernel) rfl ?_
      refine pe_get (j := 84) (ci := 6) (n := 7) (by decide +kernel) (by decide +kernel) cd_o55 rfl ?_
      refine pz_icmp_ge (off := 7) (t := 28) (by decide +kernel) (by decide) rfl rfl rfl (fun h24 => ?_) (fun h24 => ?_)
      · skip
        refine pe_iconstv (n := 0) (v := 0) (by decide +kernel) (by decide +kernel) ?_
        exact pe_iret (by decide +kernel) rfl rfl ⟨0, rfl, Or.inl ⟨rfl, trivial⟩⟩
      · skip
        refine pe_iconstv (n := 1) (v := 1) (by decide +kernel) (by decide +kernel) ?_
        refine pe_goto (off := 4) (t := 29) (by decide +kernel) (by decide) rfl ?_
        exact pe_iret (by decide +kernel) rfl rfl ⟨1, rfl, Or.inr (⟨rfl, trivial⟩)⟩
set_option maxRecDepth 100000 in
set_option maxHeartbeats 8000000 in
theorem CL_136_7 {X : pm_X} {d : Nat} {wr : pm_W} {Q : pm_R → Prop} {f : Nat → Int32} {A : Nat → List Int32} {R : Nat → Value} {x1 : Int32} {v : Nat} (hX : XO X) (hI : CI f A R) (hv : VV v) (hR0 : R 0 = .ref v) (hR2 : R 2 = .ref 33) (gx1 : (2 ≤ x1.toInt ∧ x1.toInt ≤ 6)) (k_69_0 : ∀ (y2 : Int32) (i3 : Int64) (y5 : Int32), (2 ≤ y5.toInt ∧ y5.toInt ≤ 6) → x1.toInt ≤ y5.toInt → pmE pg X pg_tyl pg_cl (d + 2) 136 69 [.ref 55, .int x1, .int y2, .long i3, pm_dead, .int y5] [] (cd f A R wr) Q) : ∀ (m : Nat) (x2 : Int32) (j3 : Int64) (x5 : Int32), (0 ≤ x5.toInt ∧ x5.toInt ≤ 6) → 6 - x5.toInt < (m : Int) → pmE pg X pg_tyl pg_cl (d + 2) 136 7 [.ref 55, .int x1, .int x2, .long j3, pm_dead, .int x5] [] (cd f A R wr) Q := by
  have bv := VV_b hv
  intro m
  induction m with
  | zero =>
    intro x2 j3 x5 gx5 hm
    exfalso
    have l0 := zi_lo x5
    have u0 := zi_hi x5
    omega
  | succ m ih =>
    intro x2 j3 x5 gx5 hm
    refine pe_iload (j := 5) (by decide +kernel) rfl ?_
    refine pe_iload_n (j := 1) (by decide +kernel) rfl ?_
    refine pz_icmp_ge (off := 59) (t := 69) (by decide +kernel) (by decide) rfl rfl rfl (fun h1 => ?_) (fun h1 => ?_)
    · skip
      exact k_69_0 x2 j3 x5 (by omega) (by omega)
    · skip
      refine pe_iload_n (j := 2) (by decide +kernel) rfl ?_
      refine pe_iload (j := 5) (by decide +kernel) rfl ?_
      refine pe_iconstv (n := 2) (v := 2) (by decide +kernel) (by decide +kernel) ?_
      refine pz_icmp_ge (off := 7) (t := 24) (by decide +kernel) (by decide) rfl rfl kz_2 (fun h2 => ?_) (fun h2 => ?_)
      · skip
        refine pe_aload_n (j := 0) (by decide +kernel) rfl ?_
        refine pe_get (j := 18) (ci := 6) (n := 3) (by decide +kernel) (by decide +kernel) cd_o55 rfl ?_
        refine pe_aload_n (j := 0) (by decide +kernel) rfl ?_
        refine pe_get (j := 22) (ci := 6) (n := 4) (by decide +kernel) (by decide +kernel) cd_o55 rfl ?_
        refine pe_iload (j := 5) (by decide +kernel) rfl ?_
        refine pz_iald (by decide +kernel) cd_a66 (cl_66 hI) rfl (by omega) (by omega) (fun v3 ev3 => ?_)
        have rv3 : 0 ≤ v3.toInt ∧ v3.toInt ≤ 8 := ct_66 hI ev3
        refine pz_iald (by decide +kernel) cd_a65 (cl_65 hI) rfl (by omega) (by omega) (fun v4 ev4 => ?_)
        refine pw_add (by decide +kernel) (fun z5 => ?_)
        refine pe_istore_n (j := 2) (ls' := [.ref 55, .int x1, .int z5, .long j3, pm_dead, .int x5]) (by decide +kernel) (Nat.le_of_ble_eq_true rfl) rfl ?_
        refine pe_lload_n (j := 3) (by decide +kernel) rfl ?_
        refine pe_bipushv (n := 100) (v := 100) (by decide +kernel) (by decide +kernel) ?_
        refine pe_aload_n (j := 0) (by decide +kernel) rfl ?_
        refine pe_get (j := 12) (ci := 6) (n := 0) (by decide +kernel) (by decide +kernel) cd_o55 rfl ?_
        refine pe_topV (v := .ref 33) (hR2) ?_
        refine pe_get (j := 28) (ci := 7) (n := 0) (by decide +kernel) (by decide +kernel) cd_o33 rfl ?_
        refine pe_topV (v := .ref v) (hR0) ?_
        refine pe_get (j := 77) (ci := 9) (n := 5) (by decide +kernel) (by decide +kernel) (cv_o hv) rfl ?_
        refine pe_aload_n (j := 0) (by decide +kernel) rfl ?_
        refine pe_get (j := 22) (ci := 6) (n := 4) (by decide +kernel) (by decide +kernel) cd_o55 rfl ?_
        refine pe_iload (j := 5) (by decide +kernel) rfl ?_
        refine pz_iald (by decide +kernel) cd_a66 (cl_66 hI) rfl (by omega) (by omega) (fun v6 ev6 => ?_)
        rw [ev6.trans ev3.symm]
        clear ev6 v6
        refine pz_iald (by decide +kernel) (cv_a3 hv) (cv_l3 hv hI) rfl (by omega) (by omega) (fun v7 ev7 => ?_)
        refine pw_sub (by decide +kernel) (fun z8 => ?_)
        refine pw_i2l (by decide +kernel) (fun l9 => ?_)
        refine pw_lmul (by decide +kernel) (fun l10 => ?_)
        refine pe_lstore_n (j := 3) (ls' := [.ref 55, .int x1, .int z5, .long l10, pm_dead, .int x5]) (by decide +kernel) (Nat.le_of_ble_eq_true rfl) rfl ?_
        refine pz_iinc (j := 5) (n := 1) (by decide +kernel) rfl rfl (by decide +kernel) (by omega) (by omega) (fun z11 hz11 => ?_)
        show pmE pg X pg_tyl pg_cl (d + 2) 136 66 [.ref 55, .int x1, .int z5, .long l10, pm_dead, .int z11] [] (cd f A R wr) _
        refine pe_goto (off := (-59)) (t := 7) (by decide +kernel) (by decide) rfl ?_
        exact ih z5 l10 z11 (by omega) (by omega)
      · skip
        refine pe_iconstv (n := 0) (v := 0) (by decide +kernel) (by decide +kernel) ?_
        refine pe_goto (off := 15) (t := 36) (by decide +kernel) (by decide) rfl ?_
        have lw13 := zi_lo x2
        have uw13 := zi_hi x2
        refine pz_add (by decide +kernel) rfl kz_0 (by omega) (by omega) (fun z12 hz12 => ?_)
        refine pe_istore_n (j := 2) (ls' := [.ref 55, .int x1, .int z12, .long j3, pm_dead, .int x5]) (by decide +kernel) (Nat.le_of_ble_eq_true rfl) rfl ?_
        refine pe_lload_n (j := 3) (by decide +kernel) rfl ?_
        refine pe_bipushv (n := 100) (v := 100) (by decide +kernel) (by decide +kernel) ?_
        refine pe_aload_n (j := 0) (by decide +kernel) rfl ?_
        refine pe_get (j := 12) (ci := 6) (n := 0) (by decide +kernel) (by decide +kernel) cd_o55 rfl ?_
        refine pe_topV (v := .ref 33) (hR2) ?_
        refine pe_get (j := 28) (ci := 7) (n := 0) (by decide +kernel) (by decide +kernel) cd_o33 rfl ?_
        refine pe_topV (v := .ref v) (hR0) ?_
        refine pe_get (j := 77) (ci := 9) (n := 5) (by decide +kernel) (by decide +kernel) (cv_o hv) rfl ?_
        refine pe_aload_n (j := 0) (by decide +kernel) rfl ?_
        refine pe_get (j := 22) (ci := 6) (n := 4) (by decide +kernel) (by decide +kernel) cd_o55 rfl ?_
        refine pe_iload (j := 5) (by decide +kernel) rfl ?_
        refine pz_iald (by decide +kernel) cd_a66 (cl_66 hI) rfl (by omega) (by omega) (fun v14 ev14 => ?_)
        have rv14 : 0 ≤ v14.toInt ∧ v14.toInt ≤ 8 := ct_66 hI ev14
        refine pz_iald (by decide +kernel) (cv_a3 hv) (cv_l3 hv hI) rfl (by omega) (by omega) (fun v15 ev15 => ?_)
        refine pw_sub (by decide +kernel) (fun z16 => ?_)
        refine pw_i2l (by decide +kernel) (fun l17 => ?_)
        refine pw_lmul (by decide +kernel) (fun l18 => ?_)
        refine pe_lstore_n (j := 3) (ls' := [.ref 55, .int x1, .int z12, .long l18, pm_dead, .int x5]) (by decide +kernel) (Nat.le_of_ble_eq_true rfl) rfl ?_
        refine pz_iinc (j := 5) (n := 1) (by decide +kernel) rfl rfl (by decide +kernel) (by omega) (by omega) (fun z19 hz19 => ?_)
        show pmE pg X pg_tyl pg_cl (d + 2) 136 66 [.ref 55, .int x1, .int z12, .long l18, pm_dead, .int z19] [] (cd f A R wr) _
        refine pe_goto (off := (-59)) (t := 7) (by decide +kernel) (by decide) rfl ?_
        exact ih z12 l18 z19 (by omega) (by omega)
set_option maxRecDepth 100000 in
set_option maxHeartbeats 8000000 in
theorem CM_136 {X : pm_X} {d : Nat} {wr : pm_W} {f : Nat → Int32} {A : Nat → List Int32} {R : Nat → Value} {x1 : Int32} {v : Nat} (hX : XO X) (hI : CI f A R) (hv : VV v) (hR0 : R 0 = .ref v) (hR2 : R 2 = .ref 33) (gx1 : (2 ≤ x1.toInt ∧ x1.toInt ≤ 6)) : pmE pg X pg_tyl pg_cl (d + 2) 136 0 (pm_ent (pm_max pg 136) [.ref 55, .int x1]) [] (cd f A R wr) (fun q => ∃ (f' : Nat → Int32) (A' : Nat → List Int32) (R' : Nat → Value), q = (none, cd f' A' R' wr, 0, 0) ∧ CI f' A' R' ∧ (∀ k : Nat, k ≠ 886 → k ≠ 887 → f' k = f k) ∧ (∀ k : Nat, k ≠ 67 → A' k = A k) ∧ (∀ k : Nat, k ≠ 5 → R' k = R k) ∧ ((True))) := by
  have bv := VV_b hv
  show pmE pg X pg_tyl pg_cl (d + 2) 136 0 [.ref 55, .int x1, pm_dead, pm_dead, pm_dead, pm_dead] [] (cd f A R wr) _
  refine pe_iconstv (n := 0) (v := 0) (by decide +kernel) (by decide +kernel) ?_
  refine pe_istore_n (j := 2) (ls' := [.ref 55, .int x1, .int 0, pm_dead, pm_dead, pm_dead]) (by decide +kernel) (Nat.le_of_ble_eq_true rfl) rfl ?_
  refine pw_lconst (n := 1) (by decide +kernel) (fun l1 => ?_)
  refine pe_lstore_n (j := 3) (ls' := [.ref 55, .int x1, .int 0, .long l1, pm_dead, pm_dead]) (by decide +kernel) (Nat.le_of_ble_eq_true rfl) rfl ?_
  refine pe_iconstv (n := 0) (v := 0) (by decide +kernel) (by decide +kernel) ?_
  refine pe_istore (j := 5) (ls' := [.ref 55, .int x1, .int 0, .long l1, pm_dead, .int 0]) (by decide +kernel) (Nat.le_of_ble_eq_true rfl) rfl ?_
  refine CL_136_7 hX hI hv (hR0) (hR2) (by omega) (fun y2 l3 y4 gy4 hr5 => ?_) 7 0 l1 0 (by decide +kernel) (by decide +kernel)
  refine pe_aload_n (j := 0) (by decide +kernel) rfl ?_
  refine pe_get (j := 56) (ci := 6) (n := 6) (by decide +kernel) (by decide +kernel) cd_o55 rfl ?_
  have hr_f_886 := cf_886 hI
  refine pz_if_eq (off := 13) (t := 86) (by decide +kernel) (by decide) rfl rfl (fun h6 => ?_) (fun h6 => ?_)
  · skip
    refine pe_aload_n (j := 0) (by decide +kernel) rfl ?_
    refine pe_iload_n (j := 1) (by decide +kernel) rfl ?_
    refine cz_put886 (jj := 56) (by decide +kernel) (by decide +kernel) hI (by omega) (by omega) (fun f7 ef7 hIf7 => ?_)
    refine pe_aload_n (j := 0) (by decide +kernel) rfl ?_
    refine pe_iload_n (j := 2) (by decide +kernel) rfl ?_
    refine cz_put887 (jj := 84) (by decide +kernel) (by decide +kernel) hIf7 (fun f8 ef8 hIf8 => ?_)
    refine pe_aload_n (j := 0) (by decide +kernel) rfl ?_
    refine pe_lload_n (j := 3) (by decide +kernel) rfl ?_
    refine cz_putR5 (jj := 87) (ty := .long) (by decide +kernel) (by decide +kernel) hIf8 pm_fit_lng ⟨_, rfl⟩ (fun R9 eR9 hIR9 => ?_)
    refine pe_aload_n (j := 0) (by decide +kernel) rfl ?_
    refine pe_get (j := 22) (ci := 6) (n := 4) (by decide +kernel) (by decide +kernel) cd_o55 rfl ?_
    refine pe_iconstv (n := 0) (v := 0) (by decide +kernel) (by decide +kernel) ?_
    refine pe_aload_n (j := 0) (by decide +kernel) rfl ?_
    refine pe_get (j := 25) (ci := 6) (n := 5) (by decide +kernel) (by decide +kernel) cd_o55 rfl ?_
    refine pe_iconstv (n := 0) (v := 0) (by decide +kernel) (by decide +kernel) ?_
    refine pe_iload_n (j := 1) (by decide +kernel) rfl ?_
    have hl10 := kz_0
    have hl11 := kz_0
    refine cz_copy (j := 35) (a := 0) (b := 0) (c := x1.toInt) (by decide +kernel) (by decide +kernel) (Nat.le_of_ble_eq_true rfl) cd_a66 cd_a67 (by decide +kernel) (fun _ => cd_s67) hIR9 (cl_66 hIR9) (cl_67 hIR9) kz_0 kz_0 rfl (by omega) (by omega) (by omega) (by omega) (by omega) (Or.inl rfl) (ct_one (kd := 2) (P := fun kd => ∀ i, i < (x1.toInt : Int).toNat → CT kd ((0 : Int).toNat + i) ((A 66).getD ((0 : Int).toNat + i) 0).toInt) (by decide +kernel) (fun i _ => ct_66 hIR9 rfl)) (fun A12 eA12 hIA12 => ?_)
    exact pe_vret (by decide +kernel) rfl ⟨f8, A12, R9, rfl, hIA12, (fun k n886 n887 => (upf_fr ef8 n887).trans (upf_fr ef7 n886)), (fun k n67 => upa_fr eA12 n67), (fun k n5 => upr_fr eR9 n5), trivial⟩
  · skip
    refine pe_aload_n (j := 0) (by decide +kernel) rfl ?_
    refine pe_iload_n (j := 1) (by decide +kernel) rfl ?_
    refine pe_iload_n (j := 2) (by decide +kernel) rfl ?_
    refine pe_lload_n (j := 3) (by decide +kernel) rfl ?_
    refine pz_callV (j := 80) (mj := 137) (by decide +kernel) (cll_V (args := [.long l3, .int y2, .int x1]) (n := 3) (by decide +kernel) rfl rfl cd_o55 (by decide +kernel) (Nat.le_of_ble_eq_true rfl) (Nat.le_of_ble_eq_true rfl)) (CM_137 hX hI (by omega)) (fun q13a q13b q13c q13d hqq13 => ?_)
    obtain ⟨rq13, eq13, kq13⟩ := hqq13
    cases eq13
    refine ⟨rfl, rfl, ?_⟩
    rcases kq13 with kq13 | kq13
    · skip
      obtain ⟨erq13, kq13⟩ := kq13
      subst erq13
      show pmE pg X pg_tyl pg_cl (d + 2) 136 83 [.ref 55, .int x1, .int y2, .long l3, pm_dead, .int y4] [.int 0] (cd f A R wr) _
      refine pz_if_eq (off := 32) (t := 115) (by decide +kernel) (by decide) rfl kz_0 (fun h14 => ?_) (fun h14 => by omega)
      exact pe_vret (by decide +kernel) rfl ⟨f, A, R, rfl, hI, (fun k n886 n887 => rfl), (fun k n67 => rfl), (fun k n5 => rfl), trivial⟩
    · skip
      obtain ⟨erq13, kq13⟩ := kq13
      subst erq13
      show pmE pg X pg_tyl pg_cl (d + 2) 136 83 [.ref 55, .int x1, .int y2, .long l3, pm_dead, .int y4] [.int 1] (cd f A R wr) _
      refine pz_if_eq (off := 32) (t := 115) (by decide +kernel) (by decide) rfl kz_1 (fun h15 => by omega) (fun h15 => ?_)
      refine pe_aload_n (j := 0) (by decide +kernel) rfl ?_
      refine pe_iload_n (j := 1) (by decide +kernel) rfl ?_
      refine cz_put886 (jj := 56) (by decide +kernel) (by decide +kernel) hI (by omega) (by omega) (fun f16 ef16 hIf16 => ?_)
      refine pe_aload_n (j := 0) (by decide +kernel) rfl ?_
      refine pe_iload_n (j := 2) (by decide +kernel) rfl ?_
      refine cz_put887 (jj := 84) (by decide +kernel) (by decide +kernel) hIf16 (fun f17 ef17 hIf17 => ?_)
      refine pe_aload_n (j := 0) (by decide +kernel) rfl ?_
      refine pe_lload_n (j := 3) (by decide +kernel) rfl ?_
      refine cz_putR5 (jj := 87) (ty := .long) (by decide +kernel) (by decide +kernel) hIf17 pm_fit_lng ⟨_, rfl⟩ (fun R18 eR18 hIR18 => ?_)
      refine pe_aload_n (j := 0) (by decide +kernel) rfl ?_
      refine pe_get (j := 22) (ci := 6) (n := 4) (by decide +kernel) (by decide +kernel) cd_o55 rfl ?_
      refine pe_iconstv (n := 0) (v := 0) (by decide +kernel) (by decide +kernel) ?_
      refine pe_aload_n (j := 0) (by decide +kernel) rfl ?_
      refine pe_get (j := 25) (ci := 6) (n := 5) (by decide +kernel) (by decide +kernel) cd_o55 rfl ?_
      refine pe_iconstv (n := 0) (v := 0) (by decide +kernel) (by decide +kernel) ?_
      refine pe_iload_n (j := 1) (by decide +kernel) rfl ?_
      have hl19 := kz_0
      have hl20 := kz_0
      refine cz_copy (j := 35) (a := 0) (b := 0) (c := x1.toInt) (by decide +kernel) (by decide +kernel) (Nat.le_of_ble_eq_true rfl) cd_a66 cd_a67 (by decide +kernel) (fun _ => cd_s67) hIR18 (cl_66 hIR18) (cl_67 hIR18) kz_0 kz_0 rfl (by omega) (by omega) (by omega) (by omega) (by omega) (Or.inl rfl) (ct_one (kd := 2) (P := fun kd => ∀ i, i < (x1.toInt : Int).toNat → CT kd ((0 : Int).toNat + i) ((A 66).getD ((0 : Int).toNat + i) 0).toInt) (by decide +kernel) (fun i _ => ct_66 hIR18 rfl)) (fun A21 eA21 hIA21 => ?_)
      exact pe_vret (by decide +kernel) rfl ⟨f17, A21, R18, rfl, hIA21, (fun k n886 n887 => (upf_fr ef17 n887).trans (upf_fr ef16 n886)), (fun k n67 => upa_fr eA21 n67), (fun k n5 => upr_fr eR18 n5), trivial⟩
end
