set_option maxRecDepth 100000 in
set_option maxHeartbeats 8000000 in
theorem CL_107_16 {X : pm_X} {d : Nat} {wr : pm_W} {Q : pm_R → Prop} {f : Nat → Int32} {A : Nat → List Int32} {R : Nat → Value} {x3 : Int32} (hX : XO X) (hI : CI f A R) (gx3 : (0 ≤ x3.toInt ∧ x3.toInt ≤ 8)) (k_58_0 : ∀ (y2 : Int32) (y4 : Int32), (0 ≤ y4.toInt ∧ y4.toInt ≤ 8) → x3.toInt ≤ y4.toInt → pmE pg X pg_tyl pg_cl (d + 1) 107 58 [.ref 42, .ref 33, .int y2, .int x3, .int y4] [] (cd f A R wr) Q) : ∀ (m : Nat) (x2 : Int32) (x4 : Int32), (0 ≤ x4.toInt ∧ x4.toInt ≤ 8) → 8 - x4.toInt < (m : Int) → pmE pg X pg_tyl pg_cl (d + 1) 107 16 [.ref 42, .ref 33, .int x2, .int x3, .int x4] [] (cd f A R wr) Q := by
  intro m
  induction m with
  | zero =>
    intro x2 x4 gx4 hm
    exfalso
    have l0 := zi_lo x4
    have u0 := zi_hi x4
    omega
  | succ m ih =>
    intro x2 x4 gx4 hm
    refine pe_iload (j := 4) (by decide +kernel) rfl ?_
    refine pe_iload_n (j := 3) (by decide +kernel) rfl ?_
    refine pz_icmp_ge (off := 39) (t := 58) (by decide +kernel) (by decide) rfl rfl rfl (fun h1 => ?_) (fun h1 => ?_)
    · skip
      exact k_58_0 x2 x4 (by omega) (by omega)
    · skip
      refine pe_iload_n (j := 2) (by decide +kernel) rfl ?_
      refine pe_iconstv (n := 2) (v := 2) (by decide +kernel) (by decide +kernel) ?_
      refine pe_aload_n (j := 1) (by decide +kernel) rfl ?_
      refine pe_get (j := 32) (ci := 7) (n := 3) (by decide +kernel) (by decide +kernel) cd_o33 rfl ?_
      refine pe_iload_n (j := 3) (by decide +kernel) rfl ?_
      refine pe_iload (j := 4) (by decide +kernel) rfl ?_
      refine pi_S (j := 35) (mj := 52) (by decide +kernel) (by decide +kernel) rfl ?_
      show pmE pg X pg_tyl pg_cl (d) 52 0 [.int x3, .int x4] [] (cd f A R wr) _
      refine pe_iload_n (j := 0) (by decide +kernel) rfl ?_
      refine pe_bipushv (n := 9) (v := 9) (by decide +kernel) (by decide +kernel) ?_
      refine pz_mul (by decide +kernel) rfl kz_9 (by omega) (by omega) (fun z2 hz2 => ?_)
      refine pe_iload_n (j := 1) (by decide +kernel) rfl ?_
      refine pz_add (by decide +kernel) hz2 rfl (by omega) (by omega) (fun z3 hz3 => ?_)
      clear hz2
      refine pe_iret (by decide +kernel) rfl rfl ⟨rfl, rfl, ?_⟩
      show pmE pg X pg_tyl pg_cl (d + 1) 107 34 [.ref 42, .ref 33, .int x2, .int x3, .int x4] [.int z3, .ref 39, .int 2, .int x2] (cd f A R wr) _
      refine pz_iald (by decide +kernel) cd_a39 (cl_39 hI) hz3 (by omega) (by omega) (fun v4 ev4 => ?_)
      clear hz3
      refine pe_aload_n (j := 1) (by decide +kernel) rfl ?_
      refine pe_get (j := 32) (ci := 7) (n := 3) (by decide +kernel) (by decide +kernel) cd_o33 rfl ?_
      refine pe_iload (j := 4) (by decide +kernel) rfl ?_
      refine pe_iload_n (j := 3) (by decide +kernel) rfl ?_
      refine pi_S (j := 35) (mj := 52) (by decide +kernel) (by decide +kernel) rfl ?_
      show pmE pg X pg_tyl pg_cl (d) 52 0 [.int x4, .int x3] [] (cd f A R wr) _
      refine pe_iload_n (j := 0) (by decide +kernel) rfl ?_
      refine pe_bipushv (n := 9) (v := 9) (by decide +kernel) (by decide +kernel) ?_
      refine pz_mul (by decide +kernel) rfl kz_9 (by omega) (by omega) (fun z5 hz5 => ?_)
      refine pe_iload_n (j := 1) (by decide +kernel) rfl ?_
      refine pz_add (by decide +kernel) hz5 rfl (by omega) (by omega) (fun z6 hz6 => ?_)
      clear hz5
      refine pe_iret (by decide +kernel) rfl rfl ⟨rfl, rfl, ?_⟩
      show pmE pg X pg_tyl pg_cl (d + 1) 107 45 [.ref 42, .ref 33, .int x2, .int x3, .int x4] [.int z6, .ref 39, .int v4, .int 2, .int x2] (cd f A R wr) _
      refine pz_iald (by decide +kernel) cd_a39 (cl_39 hI) hz6 (by omega) (by omega) (fun v7 ev7 => ?_)
      clear hz6
      have lw9 := zi_lo v4
      have uw9 := zi_hi v4
      have lw10 := zi_lo v7
      have uw10 := zi_hi v7
      refine pz_min (j := 39) (c := (-2147483648)) (by decide +kernel) (by decide +kernel) (Nat.le_of_ble_eq_true rfl) rfl rfl (by omega) (by omega) (fun z8 hz8 => ?_)
      refine pw_mul (by decide +kernel) (fun z11 => ?_)
      refine pw_sub (by decide +kernel) (fun z12 => ?_)
      refine pe_istore_n (j := 2) (ls' := [.ref 42, .ref 33, .int z12, .int x3, .int x4]) (by decide +kernel) (Nat.le_of_ble_eq_true rfl) rfl ?_
      refine pz_iinc (j := 4) (n := 1) (by decide +kernel) rfl rfl (by decide +kernel) (by omega) (by omega) (fun z13 hz13 => ?_)
      show pmE pg X pg_tyl pg_cl (d + 1) 107 55 [.ref 42, .ref 33, .int z12, .int x3, .int z13] [] (cd f A R wr) _
      refine pe_goto (off := (-39)) (t := 16) (by decide +kernel) (by decide) rfl ?_
      exact ih z12 z13 (by omega) (by omega)
set_option maxRecDepth 100000 in
set_option maxHeartbeats 8000000 in
theorem CL_107_7 {X : pm_X} {d : Nat} {wr : pm_W} {Q : pm_R → Prop} {f : Nat → Int32} {A : Nat → List Int32} {R : Nat → Value} (hX : XO X) (hI : CI f A R) (k_64_0 : ∀ (y2 : Int32) (y3 : Int32) (v4 : Value), (9 ≤ y3.toInt ∧ y3.toInt ≤ 9) → pmE pg X pg_tyl pg_cl (d + 1) 107 64 [.ref 42, .ref 33, .int y2, .int y3, v4] [] (cd f A R wr) Q) : ∀ (m : Nat) (x2 : Int32) (x3 : Int32) (u4 : Value), (0 ≤ x3.toInt ∧ x3.toInt ≤ 9) → 9 - x3.toInt < (m : Int) → pmE pg X pg_tyl pg_cl (d + 1) 107 7 [.ref 42, .ref 33, .int x2, .int x3, u4] [] (cd f A R wr) Q := by
  intro m
  induction m with
  | zero =>
    intro x2 x3 u4 gx3 hm
    exfalso
    have l0 := zi_lo x3
    have u0 := zi_hi x3
    omega
  | succ m ih =>
    intro x2 x3 u4 gx3 hm
    refine pe_iload_n (j := 3) (by decide +kernel) rfl ?_
    refine pe_bipushv (n := 9) (v := 9) (by decide +kernel) (by decide +kernel) ?_
    refine pz_icmp_ge (off := 54) (t := 64) (by decide +kernel) (by decide) rfl rfl kz_9 (fun h1 => ?_) (fun h1 => ?_)
    · skip
      exact k_64_0 x2 x3 (u4) (by omega)
    · skip
      refine pe_iconstv (n := 0) (v := 0) (by decide +kernel) (by decide +kernel) ?_
      refine pe_istore (j := 4) (ls' := [.ref 42, .ref 33, .int x2, .int x3, .int 0]) (by decide +kernel) (Nat.le_of_ble_eq_true rfl) rfl ?_
      refine CL_107_16 hX hI (by omega) (fun y2 y3 gy3 hr4 => ?_) 9 x2 0 (by decide +kernel) (by decide +kernel)
      refine pz_iinc (j := 3) (n := 1) (by decide +kernel) rfl rfl (by decide +kernel) (by omega) (by omega) (fun z5 hz5 => ?_)
      show pmE pg X pg_tyl pg_cl (d + 1) 107 61 [.ref 42, .ref 33, .int y2, .int z5, .int y3] [] (cd f A R wr) _
      refine pe_goto (off := (-54)) (t := 7) (by decide +kernel) (by decide) rfl ?_
      exact ih y2 z5 (.int y3) (by omega) (by omega)
set_option maxRecDepth 100000 in
set_option maxHeartbeats 8000000 in
theorem CM_107 {X : pm_X} {d : Nat} {wr : pm_W} {f : Nat → Int32} {A : Nat → List Int32} {R : Nat → Value} (hX : XO X) (hI : CI f A R) : pmE pg X pg_tyl pg_cl (d + 1) 107 0 (pm_ent (pm_max pg 107) [.ref 42, .ref 33]) [] (cd f A R wr) (fun q => ∃ (r : Int32), q = (some (.int r), cd f A R wr, 0, 0) ∧ ((True ∧ True))) := by
  show pmE pg X pg_tyl pg_cl (d + 1) 107 0 [.ref 42, .ref 33, pm_dead, pm_dead, pm_dead] [] (cd f A R wr) _
  refine pe_aload_n (j := 1) (by decide +kernel) rfl ?_
  refine pz_callV (j := 28) (mj := 105) (by decide +kernel) (cll_V (args := []) (n := 0) (by decide +kernel) rfl rfl cd_o33 (by decide +kernel) (Nat.le_of_ble_eq_true rfl) (Nat.le_of_ble_eq_true rfl)) (CM_105 hX hI) (fun q1a q1b q1c q1d hqq1 => ?_)
  obtain ⟨rq1, eq1, kq1⟩ := hqq1
  cases eq1
  refine ⟨rfl, rfl, ?_⟩
  show pmE pg X pg_tyl pg_cl (d + 1) 107 4 [.ref 42, .ref 33, pm_dead, pm_dead, pm_dead] [.int rq1] (cd f A R wr) _
  refine pe_istore_n (j := 2) (ls' := [.ref 42, .ref 33, .int rq1, pm_dead, pm_dead]) (by decide +kernel) (Nat.le_of_ble_eq_true rfl) rfl ?_
  refine pe_iconstv (n := 0) (v := 0) (by decide +kernel) (by decide +kernel) ?_
  refine pe_istore_n (j := 3) (ls' := [.ref 42, .ref 33, .int rq1, .int 0, pm_dead]) (by decide +kernel) (Nat.le_of_ble_eq_true rfl) rfl ?_
  refine CL_107_7 hX hI (fun y2 y3 u4 gy3 => ?_) 10 rq1 0 (pm_dead) (by decide +kernel) (by decide +kernel)
  refine pe_iload_n (j := 2) (by decide +kernel) rfl ?_
  exact pe_iret (by decide +kernel) rfl rfl ⟨y2, rfl, ⟨trivial, trivial⟩⟩
set_option maxRecDepth 100000 in
set_option maxHeartbeats 8000000 in
theorem CL_113_13 {X : pm_X} {d : Nat} {wr : pm_W} {Q : pm_R → Prop} {f : Nat → Int32} {A : Nat → List Int32} {R : Nat → Value} {x3 : Int32} (hX : XO X) (hI : CI f A R) (gx3 : (0 ≤ x3.toInt ∧ x3.toInt ≤ 8)) (k_61_0 : ∀ (y2 : Int32) (y4 : Int32), (0 ≤ y4.toInt ∧ y4.toInt ≤ 8) → x3.toInt ≤ y4.toInt → pmE pg X pg_tyl pg_cl (d + 1) 113 61 [.ref 42, .ref 33, .int y2, .int x3, .int y4] [] (cd f A R wr) Q) : ∀ (m : Nat) (x2 : Int32) (x4 : Int32), (0 ≤ x4.toInt ∧ x4.toInt ≤ 8) → 8 - x4.toInt < (m : Int) → pmE pg X pg_tyl pg_cl (d + 1) 113 13 [.ref 42, .ref 33, .int x2, .int x3, .int x4] [] (cd f A R wr) Q := by
  intro m
  induction m with
  | zero =>
    intro x2 x4 gx4 hm
    exfalso
    have l0 := zi_lo x4
    have u0 := zi_hi x4
    omega
  | succ m ih =>
    intro x2 x4 gx4 hm
    refine pe_iload (j := 4) (by decide +kernel) rfl ?_
    refine pe_iload_n (j := 3) (by decide +kernel) rfl ?_
    refine pz_icmp_ge (off := 45) (t := 61) (by decide +kernel) (by decide) rfl rfl rfl (fun h1 => ?_) (fun h1 => ?_)
    · skip
      exact k_61_0 x2 x4 (by omega) (by omega)
    · skip
      refine pe_iload_n (j := 2) (by decide +kernel) rfl ?_
      refine pe_aload_n (j := 1) (by decide +kernel) rfl ?_
      refine pe_get (j := 32) (ci := 7) (n := 3) (by decide +kernel) (by decide +kernel) cd_o33 rfl ?_
      refine pe_iload_n (j := 3) (by decide +kernel) rfl ?_
      refine pe_iload (j := 4) (by decide +kernel) rfl ?_
      refine pi_S (j := 35) (mj := 52) (by decide +kernel) (by decide +kernel) rfl ?_
      show pmE pg X pg_tyl pg_cl (d) 52 0 [.int x3, .int x4] [] (cd f A R wr) _
      refine pe_iload_n (j := 0) (by decide +kernel) rfl ?_
      refine pe_bipushv (n := 9) (v := 9) (by decide +kernel) (by decide +kernel) ?_
      refine pz_mul (by decide +kernel) rfl kz_9 (by omega) (by omega) (fun z2 hz2 => ?_)
      refine pe_iload_n (j := 1) (by decide +kernel) rfl ?_
      refine pz_add (by decide +kernel) hz2 rfl (by omega) (by omega) (fun z3 hz3 => ?_)
      clear hz2
      refine pe_iret (by decide +kernel) rfl rfl ⟨rfl, rfl, ?_⟩
      show pmE pg X pg_tyl pg_cl (d + 1) 113 30 [.ref 42, .ref 33, .int x2, .int x3, .int x4] [.int z3, .ref 39, .int x2] (cd f A R wr) _
      refine pz_iald (by decide +kernel) cd_a39 (cl_39 hI) hz3 (by omega) (by omega) (fun v4 ev4 => ?_)
      clear hz3
      have lw6 := zi_lo v4
      have uw6 := zi_hi v4
      refine pz_if_le (off := 21) (t := 52) (by decide +kernel) (by decide) rfl rfl (fun h5 => ?_) (fun h5 => ?_)
      · skip
        refine pe_iconstv (n := 0) (v := 0) (by decide +kernel) (by decide +kernel) ?_
        have lw8 := zi_lo x2
        have uw8 := zi_hi x2
        refine pz_add (by decide +kernel) rfl kz_0 (by omega) (by omega) (fun z7 hz7 => ?_)
        refine pe_istore_n (j := 2) (ls' := [.ref 42, .ref 33, .int z7, .int x3, .int x4]) (by decide +kernel) (Nat.le_of_ble_eq_true rfl) rfl ?_
        refine pz_iinc (j := 4) (n := 1) (by decide +kernel) rfl rfl (by decide +kernel) (by omega) (by omega) (fun z9 hz9 => ?_)
        show pmE pg X pg_tyl pg_cl (d + 1) 113 58 [.ref 42, .ref 33, .int z7, .int x3, .int z9] [] (cd f A R wr) _
        refine pe_goto (off := (-45)) (t := 13) (by decide +kernel) (by decide) rfl ?_
        exact ih z7 z9 (by omega) (by omega)
      · skip
        refine pe_aload_n (j := 1) (by decide +kernel) rfl ?_
        refine pe_get (j := 32) (ci := 7) (n := 3) (by decide +kernel) (by decide +kernel) cd_o33 rfl ?_
        refine pe_iload (j := 4) (by decide +kernel) rfl ?_
        refine pe_iload_n (j := 3) (by decide +kernel) rfl ?_
        refine pi_S (j := 35) (mj := 52) (by decide +kernel) (by decide +kernel) rfl ?_
        show pmE pg X pg_tyl pg_cl (d) 52 0 [.int x4, .int x3] [] (cd f A R wr) _
        refine pe_iload_n (j := 0) (by decide +kernel) rfl ?_
        refine pe_bipushv (n := 9) (v := 9) (by decide +kernel) (by decide +kernel) ?_
        refine pz_mul (by decide +kernel) rfl kz_9 (by omega) (by omega) (fun z10 hz10 => ?_)
        refine pe_iload_n (j := 1) (by decide +kernel) rfl ?_
        refine pz_add (by decide +kernel) hz10 rfl (by omega) (by omega) (fun z11 hz11 => ?_)
        clear hz10
        refine pe_iret (by decide +kernel) rfl rfl ⟨rfl, rfl, ?_⟩
        show pmE pg X pg_tyl pg_cl (d + 1) 113 44 [.ref 42, .ref 33, .int x2, .int x3, .int x4] [.int z11, .ref 39, .int x2] (cd f A R wr) _
        refine pz_iald (by decide +kernel) cd_a39 (cl_39 hI) hz11 (by omega) (by omega) (fun v12 ev12 => ?_)
        clear hz11
        have lw14 := zi_lo v12
        have uw14 := zi_hi v12
        refine pz_if_le (off := 7) (t := 52) (by decide +kernel) (by decide) rfl rfl (fun h13 => ?_) (fun h13 => ?_)
        · skip
          refine pe_iconstv (n := 0) (v := 0) (by decide +kernel) (by decide +kernel) ?_
          have lw16 := zi_lo x2
          have uw16 := zi_hi x2
          refine pz_add (by decide +kernel) rfl kz_0 (by omega) (by omega) (fun z15 hz15 => ?_)
          refine pe_istore_n (j := 2) (ls' := [.ref 42, .ref 33, .int z15, .int x3, .int x4]) (by decide +kernel) (Nat.le_of_ble_eq_true rfl) rfl ?_
          refine pz_iinc (j := 4) (n := 1) (by decide +kernel) rfl rfl (by decide +kernel) (by omega) (by omega) (fun z17 hz17 => ?_)
          show pmE pg X pg_tyl pg_cl (d + 1) 113 58 [.ref 42, .ref 33, .int z15, .int x3, .int z17] [] (cd f A R wr) _
          refine pe_goto (off := (-45)) (t := 13) (by decide +kernel) (by decide) rfl ?_
          exact ih z15 z17 (by omega) (by omega)
        · skip
          refine pe_iconstv (n := 1) (v := 1) (by decide +kernel) (by decide +kernel) ?_
          refine pe_goto (off := 4) (t := 53) (by decide +kernel) (by decide) rfl ?_
          refine pw_add (by decide +kernel) (fun z18 => ?_)
          refine pe_istore_n (j := 2) (ls' := [.ref 42, .ref 33, .int z18, .int x3, .int x4]) (by decide +kernel) (Nat.le_of_ble_eq_true rfl) rfl ?_
          refine pz_iinc (j := 4) (n := 1) (by decide +kernel) rfl rfl (by decide +kernel) (by omega) (by omega) (fun z19 hz19 => ?_)
          show pmE pg X pg_tyl pg_cl (d + 1) 113 58 [.ref 42, .ref 33, .int z18, .int x3, .int z19] [] (cd f A R wr) _
          refine pe_goto (off := (-45)) (t := 13) (by decide +kernel) (by decide) rfl ?_
          exact ih z18 z19 (by omega) (by omega)
set_option maxRecDepth 100000 in
set_option maxHeartbeats 8000000 in
theorem CL_113_4 {X : pm_X} {d : Nat} {wr : pm_W} {Q : pm_R → Prop} {f : Nat → Int32} {A : Nat → List Int32} {R : Nat → Value} (hX : XO X) (hI : CI f A R) (k_67_0 : ∀ (y2 : Int32) (y3 : Int32) (v4 : Value), (9 ≤ y3.toInt ∧ y3.toInt ≤ 9) → pmE pg X pg_tyl pg_cl (d + 1) 113 67 [.ref 42, .ref 33, .int y2, .int y3, v4] [] (cd f A R wr) Q) : ∀ (m : Nat) (x2 : Int32) (x3 : Int32) (u4 : Value), (0 ≤ x3.toInt ∧ x3.toInt ≤ 9) → 9 - x3.toInt < (m : Int) → pmE pg X pg_tyl pg_cl (d + 1) 113 4 [.ref 42, .ref 33, .int x2, .int x3, u4] [] (cd f A R wr) Q := by
  intro m
  induction m with
  | zero =>
    intro x2 x3 u4 gx3 hm
    exfalso
    have l0 := zi_lo x3
    have u0 := zi_hi x3
    omega
  | succ m ih =>
    intro x2 x3 u4 gx3 hm
    refine pe_iload_n (j := 3) (by decide +kernel) rfl ?_
    refine pe_bipushv (n := 9) (v := 9) (by decide +kernel) (by decide +kernel) ?_
    refine pz_icmp_ge (off := 60) (t := 67) (by decide +kernel) (by decide) rfl rfl kz_9 (fun h1 => ?_) (fun h1 => ?_)
    · skip
      exact k_67_0 x2 x3 (u4) (by omega)
    · skip
      refine pe_iconstv (n := 0) (v := 0) (by decide +kernel) (by decide +kernel) ?_
      refine pe_istore (j := 4) (ls' := [.ref 42, .ref 33, .int x2, .int x3, .int 0]) (by decide +kernel) (Nat.le_of_ble_eq_true rfl) rfl ?_
      refine CL_113_13 hX hI (by omega) (fun y2 y3 gy3 hr4 => ?_) 9 x2 0 (by decide +kernel) (by decide +kernel)
      refine pz_iinc (j := 3) (n := 1) (by decide +kernel) rfl rfl (by decide +kernel) (by omega) (by omega) (fun z5 hz5 => ?_)
      show pmE pg X pg_tyl pg_cl (d + 1) 113 64 [.ref 42, .ref 33, .int y2, .int z5, .int y3] [] (cd f A R wr) _
      refine pe_goto (off := (-60)) (t := 4) (by decide +kernel) (by decide) rfl ?_
      exact ih y2 z5 (.int y3) (by omega) (by omega)
set_option maxRecDepth 100000 in
set_option maxHeartbeats 8000000 in
theorem CM_113 {X : pm_X} {d : Nat} {wr : pm_W} {f : Nat → Int32} {A : Nat → List Int32} {R : Nat → Value} (hX : XO X) (hI : CI f A R) : pmE pg X pg_tyl pg_cl (d + 1) 113 0 (pm_ent (pm_max pg 113) [.ref 42, .ref 33]) [] (cd f A R wr) (fun q => ∃ (r : Int32), q = (some (.int r), cd f A R wr, 0, 0) ∧ ((True ∧ True))) := by
  show pmE pg X pg_tyl pg_cl (d + 1) 113 0 [.ref 42, .ref 33, pm_dead, pm_dead, pm_dead] [] (cd f A R wr) _
  refine pe_iconstv (n := 0) (v := 0) (by decide +kernel) (by decide +kernel) ?_
  refine pe_istore_n (j := 2) (ls' := [.ref 42, .ref 33, .int 0, pm_dead, pm_dead]) (by decide +kernel) (Nat.le_of_ble_eq_true rfl) rfl ?_
  refine pe_iconstv (n := 0) (v := 0) (by decide +kernel) (by decide +kernel) ?_
  refine pe_istore_n (j := 3) (ls' := [.ref 42, .ref 33, .int 0, .int 0, pm_dead]) (by decide +kernel) (Nat.le_of_ble_eq_true rfl) rfl ?_
  refine CL_113_4 hX hI (fun y1 y2 u3 gy2 => ?_) 10 0 0 (pm_dead) (by decide +kernel) (by decide +kernel)
  refine pe_iload_n (j := 2) (by decide +kernel) rfl ?_
  exact pe_iret (by decide +kernel) rfl rfl ⟨y1, rfl, ⟨trivial, trivial⟩⟩
set_option maxRecDepth 100000 in
set_option maxHeartbeats 8000000 in
theorem CL_115_5 {X : pm_X} {d : Nat} {wr : pm_W} {Q : pm_R → Prop} {f : Nat → Int32} {A : Nat → List Int32} {R : Nat → Value} {x2 : Int32} {v : Nat} (hX : XO X) (hI : CI f A R) (hv : VV v) (hR0 : R 0 = .ref v) (gx2 : (0 ≤ x2.toInt ∧ x2.toInt ≤ 8)) (k_64_0 : ∀ (y3 : Int32) (y4 : Int32) (v5 : Value), (0 ≤ y4.toInt ∧ y4.toInt ≤ 9) → pmE pg X pg_tyl pg_cl (d + 1) 115 64 [.ref 42, .ref 33, .int x2, .int y3, .int y4, v5] [] (cd f A R wr) Q) : ∀ (m : Nat) (x3 : Int32) (x4 : Int32) (u5 : Value), (0 ≤ x4.toInt ∧ x4.toInt ≤ 9) → 9 - x4.toInt < (m : Int) → pmE pg X pg_tyl pg_cl (d + 1) 115 5 [.ref 42, .ref 33, .int x2, .int x3, .int x4, u5] [] (cd f A R wr) Q := by
  have bv := VV_b hv
  intro m
  induction m with
  | zero =>
    intro x3 x4 u5 gx4 hm
    exfalso
    have l0 := zi_lo x4
    have u0 := zi_hi x4
    omega
  | succ m ih =>
    intro x3 x4 u5 gx4 hm
    refine pe_iload (j := 4) (by decide +kernel) rfl ?_
    refine pe_aload_n (j := 1) (by decide +kernel) rfl ?_
    refine pe_get (j := 44) (ci := 7) (n := 0) (by decide +kernel) (by decide +kernel) cd_o33 rfl ?_
    refine pe_topV (v := .ref v) (hR0) ?_
    refine pe_get (j := 48) (ci := 9) (n := 0) (by decide +kernel) (by decide +kernel) (cv_o hv) rfl ?_
    have hr_f_16v := cv_people hv hI
    refine pz_icmp_ge (off := 50) (t := 64) (by decide +kernel) (by decide) rfl rfl rfl (fun h1 => ?_) (fun h1 => ?_)
    · skip
      exact k_64_0 x3 x4 (u5) (by omega)
    · skip
      refine pe_aload_n (j := 1) (by decide +kernel) rfl ?_
      refine pe_get (j := 32) (ci := 7) (n := 3) (by decide +kernel) (by decide +kernel) cd_o33 rfl ?_
      refine pe_iload_n (j := 2) (by decide +kernel) rfl ?_
      refine pe_iload (j := 4) (by decide +kernel) rfl ?_
      refine pi_S (j := 35) (mj := 52) (by decide +kernel) (by decide +kernel) rfl ?_
      show pmE pg X pg_tyl pg_cl (d) 52 0 [.int x2, .int x4] [] (cd f A R wr) _
      refine pe_iload_n (j := 0) (by decide +kernel) rfl ?_
      refine pe_bipushv (n := 9) (v := 9) (by decide +kernel) (by decide +kernel) ?_
      refine pz_mul (by decide +kernel) rfl kz_9 (by omega) (by omega) (fun z2 hz2 => ?_)
      refine pe_iload_n (j := 1) (by decide +kernel) rfl ?_
      refine pz_add (by decide +kernel) hz2 rfl (by omega) (by omega) (fun z3 hz3 => ?_)
      clear hz2
      refine pe_iret (by decide +kernel) rfl rfl ⟨rfl, rfl, ?_⟩
      show pmE pg X pg_tyl pg_cl (d + 1) 115 27 [.ref 42, .ref 33, .int x2, .int x3, .int x4, u5] [.int z3, .ref 39] (cd f A R wr) _
      refine pz_iald (by decide +kernel) cd_a39 (cl_39 hI) hz3 (by omega) (by omega) (fun v4 ev4 => ?_)
      clear hz3
      refine pe_aload_n (j := 1) (by decide +kernel) rfl ?_
      refine pe_get (j := 32) (ci := 7) (n := 3) (by decide +kernel) (by decide +kernel) cd_o33 rfl ?_
      refine pe_iload (j := 4) (by decide +kernel) rfl ?_
      refine pe_iload_n (j := 2) (by decide +kernel) rfl ?_
      refine pi_S (j := 35) (mj := 52) (by decide +kernel) (by decide +kernel) rfl ?_
      show pmE pg X pg_tyl pg_cl (d) 52 0 [.int x4, .int x2] [] (cd f A R wr) _
      refine pe_iload_n (j := 0) (by decide +kernel) rfl ?_
      refine pe_bipushv (n := 9) (v := 9) (by decide +kernel) (by decide +kernel) ?_
      refine pz_mul (by decide +kernel) rfl kz_9 (by omega) (by omega) (fun z5 hz5 => ?_)
      refine pe_iload_n (j := 1) (by decide +kernel) rfl ?_
      refine pz_add (by decide +kernel) hz5 rfl (by omega) (by omega) (fun z6 hz6 => ?_)
      clear hz5
      refine pe_iret (by decide +kernel) rfl rfl ⟨rfl, rfl, ?_⟩
      show pmE pg X pg_tyl pg_cl (d + 1) 115 38 [.ref 42, .ref 33, .int x2, .int x3, .int x4, u5] [.int z6, .ref 39, .int v4] (cd f A R wr) _
      refine pz_iald (by decide +kernel) cd_a39 (cl_39 hI) hz6 (by omega) (by omega) (fun v7 ev7 => ?_)
      clear hz6
      refine pw_add (by decide +kernel) (fun z8 => ?_)
      refine pe_istore (j := 5) (ls' := [.ref 42, .ref 33, .int x2, .int x3, .int x4, .int z8]) (by decide +kernel) (Nat.le_of_ble_eq_true rfl) rfl ?_
      refine pe_iload_n (j := 3) (by decide +kernel) rfl ?_
      refine pe_iload (j := 5) (by decide +kernel) rfl ?_
      have lw10 := zi_lo z8
      have uw10 := zi_hi z8
      refine pz_if_le (off := 10) (t := 55) (by decide +kernel) (by decide) rfl rfl (fun h9 => ?_) (fun h9 => ?_)
      · skip
        refine pe_iconstv (n := 0) (v := 0) (by decide +kernel) (by decide +kernel) ?_
        refine pw_or (by decide +kernel) (fun z11 => ?_)
        refine pe_istore_n (j := 3) (ls' := [.ref 42, .ref 33, .int x2, .int z11, .int x4, .int z8]) (by decide +kernel) (Nat.le_of_ble_eq_true rfl) rfl ?_
        refine pz_iinc (j := 4) (n := 1) (by decide +kernel) rfl rfl (by decide +kernel) (by omega) (by omega) (fun z12 hz12 => ?_)
        show pmE pg X pg_tyl pg_cl (d + 1) 115 61 [.ref 42, .ref 33, .int x2, .int z11, .int z12, .int z8] [] (cd f A R wr) _
        refine pe_goto (off := (-56)) (t := 5) (by decide +kernel) (by decide) rfl ?_
        exact ih z11 z12 (.int z8) (by omega) (by omega)
      · skip
        refine pe_iconstv (n := 1) (v := 1) (by decide +kernel) (by decide +kernel) ?_
        refine pe_iload (j := 4) (by decide +kernel) rfl ?_
        refine pz_shl1 (by decide +kernel) rfl (by omega) (by omega) (fun z13 hz13 => ?_)
        refine pe_goto (off := 4) (t := 56) (by decide +kernel) (by decide) rfl ?_
        refine pw_or (by decide +kernel) (fun z14 => ?_)
        refine pe_istore_n (j := 3) (ls' := [.ref 42, .ref 33, .int x2, .int z14, .int x4, .int z8]) (by decide +kernel) (Nat.le_of_ble_eq_true rfl) rfl ?_
        refine pz_iinc (j := 4) (n := 1) (by decide +kernel) rfl rfl (by decide +kernel) (by omega) (by omega) (fun z15 hz15 => ?_)
        show pmE pg X pg_tyl pg_cl (d + 1) 115 61 [.ref 42, .ref 33, .int x2, .int z14, .int z15, .int z8] [] (cd f A R wr) _
        refine pe_goto (off := (-56)) (t := 5) (by decide +kernel) (by decide) rfl ?_
        exact ih z14 z15 (.int z8) (by omega) (by omega)
set_option maxRecDepth 100000 in
set_option maxHeartbeats 8000000 in
theorem CM_115 {X : pm_X} {d : Nat} {wr : pm_W} {f : Nat → Int32} {A : Nat → List Int32} {R : Nat → Value} {x2 : Int32} {v : Nat} (hX : XO X) (hI : CI f A R) (hv : VV v) (hR0 : R 0 = .ref v) (gx2 : (0 ≤ x2.toInt ∧ x2.toInt ≤ 8)) : pmE pg X pg_tyl pg_cl (d + 1) 115 0 (pm_ent (pm_max pg 115) [.ref 42, .ref 33, .int x2]) [] (cd f A R wr) (fun q => ∃ (r : Int32), q = (some (.int r), cd f A R wr, 0, 0) ∧ ((True ∧ True))) := by
  have bv := VV_b hv
  show pmE pg X pg_tyl pg_cl (d + 1) 115 0 [.ref 42, .ref 33, .int x2, pm_dead, pm_dead, pm_dead] [] (cd f A R wr) _
  refine pe_iconstv (n := 0) (v := 0) (by decide +kernel) (by decide +kernel) ?_
  refine pe_istore_n (j := 3) (ls' := [.ref 42, .ref 33, .int x2, .int 0, pm_dead, pm_dead]) (by decide +kernel) (Nat.le_of_ble_eq_true rfl) rfl ?_
  refine pe_iconstv (n := 0) (v := 0) (by decide +kernel) (by decide +kernel) ?_
  refine pe_istore (j := 4) (ls' := [.ref 42, .ref 33, .int x2, .int 0, .int 0, pm_dead]) (by decide +kernel) (Nat.le_of_ble_eq_true rfl) rfl ?_
  refine CL_115_5 hX hI hv (hR0) (by omega) (fun y1 y2 u3 gy2 => ?_) 10 0 0 (pm_dead) (by decide +kernel) (by decide +kernel)
  refine pe_iload_n (j := 3) (by decide +kernel) rfl ?_
  exact pe_iret (by decide +kernel) rfl rfl ⟨y1, rfl, ⟨trivial, trivial⟩⟩
set_option maxRecDepth 100000 in
set_option maxHeartbeats 8000000 in
theorem CL_114_4 {X : pm_X} {d : Nat} {wr : pm_W} {Q : pm_R → Prop} {f : Nat → Int32} {A : Nat → List Int32} {R : Nat → Value} {v : Nat} (hX : XO X) (hI : CI f A R) (hv : VV v) (hR0 : R 0 = .ref v) (k_40_0 : ∀ (y2 : Int32) (y3 : Int32), (0 ≤ y3.toInt ∧ y3.toInt ≤ 9) → pmE pg X pg_tyl pg_cl (d + 2) 114 40 [.ref 42, .ref 33, .int y2, .int y3] [] (cd f A R wr) Q) : ∀ (m : Nat) (x2 : Int32) (x3 : Int32), (0 ≤ x3.toInt ∧ x3.toInt ≤ 9) → 9 - x3.toInt < (m : Int) → pmE pg X pg_tyl pg_cl (d + 2) 114 4 [.ref 42, .ref 33, .int x2, .int x3] [] (cd f A R wr) Q := by
  have bv := VV_b hv
  intro m
  induction m with
  | zero =>
    intro x2 x3 gx3 hm
    exfalso
    have l0 := zi_lo x3
    have u0 := zi_hi x3
    omega
  | succ m ih =>
    intro x2 x3 gx3 hm
    refine pe_iload_n (j := 3) (by decide +kernel) rfl ?_
    refine pe_aload_n (j := 1) (by decide +kernel) rfl ?_
    refine pe_get (j := 44) (ci := 7) (n := 0) (by decide +kernel) (by decide +kernel) cd_o33 rfl ?_
    refine pe_topV (v := .ref v) (hR0) ?_
    refine pe_get (j := 48) (ci := 9) (n := 0) (by decide +kernel) (by decide +kernel) (cv_o hv) rfl ?_
    have hr_f_16v := cv_people hv hI
    refine pz_icmp_ge (off := 28) (t := 40) (by decide +kernel) (by decide) rfl rfl rfl (fun h1 => ?_) (fun h1 => ?_)
    · skip
      exact k_40_0 x2 x3 (by omega)
    · skip
      refine pe_iload_n (j := 2) (by decide +kernel) rfl ?_
      refine pe_aload_n (j := 0) (by decide +kernel) rfl ?_
      refine pe_aload_n (j := 1) (by decide +kernel) rfl ?_
      refine pe_iload_n (j := 3) (by decide +kernel) rfl ?_
      refine pz_callV (j := 54) (mj := 115) (by decide +kernel) (cll_V (args := [.int x3, .ref 33]) (n := 2) (by decide +kernel) rfl rfl cd_o42 (by decide +kernel) (Nat.le_of_ble_eq_true rfl) (Nat.le_of_ble_eq_true rfl)) (CM_115 hX hI hv (hR0) (by omega)) (fun q2a q2b q2c q2d hqq2 => ?_)
      obtain ⟨rq2, eq2, kq2⟩ := hqq2
      cases eq2
      refine ⟨rfl, rfl, ?_⟩
      show pmE pg X pg_tyl pg_cl (d + 2) 114 22 [.ref 42, .ref 33, .int x2, .int x3] [.int rq2, .int x2] (cd f A R wr) _
      have lw4 := zi_lo rq2
      have uw4 := zi_hi rq2
      refine pz_if_ne (off := 9) (t := 31) (by decide +kernel) (by decide) rfl rfl (fun h3 => ?_) (fun h3 => ?_)
      · skip
        refine pe_iconstv (n := 0) (v := 0) (by decide +kernel) (by decide +kernel) ?_
        refine pw_or (by decide +kernel) (fun z5 => ?_)
        refine pe_istore_n (j := 2) (ls' := [.ref 42, .ref 33, .int z5, .int x3]) (by decide +kernel) (Nat.le_of_ble_eq_true rfl) rfl ?_
        refine pz_iinc (j := 3) (n := 1) (by decide +kernel) rfl rfl (by decide +kernel) (by omega) (by omega) (fun z6 hz6 => ?_)
        show pmE pg X pg_tyl pg_cl (d + 2) 114 37 [.ref 42, .ref 33, .int z5, .int z6] [] (cd f A R wr) _
        refine pe_goto (off := (-33)) (t := 4) (by decide +kernel) (by decide) rfl ?_
        exact ih z5 z6 (by omega) (by omega)
      · skip
        refine pe_iconstv (n := 1) (v := 1) (by decide +kernel) (by decide +kernel) ?_
        refine pe_iload_n (j := 3) (by decide +kernel) rfl ?_
        refine pz_shl1 (by decide +kernel) rfl (by omega) (by omega) (fun z7 hz7 => ?_)
        refine pe_goto (off := 4) (t := 32) (by decide +kernel) (by decide) rfl ?_
        refine pw_or (by decide +kernel) (fun z8 => ?_)
        refine pe_istore_n (j := 2) (ls' := [.ref 42, .ref 33, .int z8, .int x3]) (by decide +kernel) (Nat.le_of_ble_eq_true rfl) rfl ?_
        refine pz_iinc (j := 3) (n := 1) (by decide +kernel) rfl rfl (by decide +kernel) (by omega) (by omega) (fun z9 hz9 => ?_)
        show pmE pg X pg_tyl pg_cl (d + 2) 114 37 [.ref 42, .ref 33, .int z8, .int z9] [] (cd f A R wr) _
        refine pe_goto (off := (-33)) (t := 4) (by decide +kernel) (by decide) rfl ?_
        exact ih z8 z9 (by omega) (by omega)
set_option maxRecDepth 100000 in
set_option maxHeartbeats 8000000 in
theorem CM_114 {X : pm_X} {d : Nat} {wr : pm_W} {f : Nat → Int32} {A : Nat → List Int32} {R : Nat → Value} {v : Nat} (hX : XO X) (hI : CI f A R) (hv : VV v) (hR0 : R 0 = .ref v) : pmE pg X pg_tyl pg_cl (d + 2) 114 0 (pm_ent (pm_max pg 114) [.ref 42, .ref 33]) [] (cd f A R wr) (fun q => ∃ (r : Int32), q = (some (.int r), cd f A R wr, 0, 0) ∧ ((True ∧ True))) := by
  have bv := VV_b hv
  show pmE pg X pg_tyl pg_cl (d + 2) 114 0 [.ref 42, .ref 33, pm_dead, pm_dead] [] (cd f A R wr) _
  refine pe_iconstv (n := 0) (v := 0) (by decide +kernel) (by decide +kernel) ?_
  refine pe_istore_n (j := 2) (ls' := [.ref 42, .ref 33, .int 0, pm_dead]) (by decide +kernel) (Nat.le_of_ble_eq_true rfl) rfl ?_
  refine pe_iconstv (n := 0) (v := 0) (by decide +kernel) (by decide +kernel) ?_
  refine pe_istore_n (j := 3) (ls' := [.ref 42, .ref 33, .int 0, .int 0]) (by decide +kernel) (Nat.le_of_ble_eq_true rfl) rfl ?_
  refine CL_114_4 hX hI hv (hR0) (fun y1 y2 gy2 => ?_) 10 0 0 (by decide +kernel) (by decide +kernel)
  refine pe_iload_n (j := 2) (by decide +kernel) rfl ?_
  exact pe_iret (by decide +kernel) rfl rfl ⟨y1, rfl, ⟨trivial, trivial⟩⟩
set_option maxRecDepth 100000 in
set_option maxHeartbeats 8000000 in
theorem CL_117_25 {X : pm_X} {d : Nat} {wr : pm_W} {Q : pm_R → Prop} {f : Nat → Int32} {A : Nat → List Int32} {R : Nat → Value} {x2 x3 x4 : Int32} {v : Nat} (hX : XO X) (hI : CI f A R) (hv : VV v) (hR0 : R 0 = .ref v) (gx2 : (0 ≤ x2.toInt ∧ x2.toInt ≤ 8)) (gx4 : (0 ≤ x4.toInt ∧ x4.toInt ≤ 8)) (k_68_0 : ∀ (y5 : Int32) (y6 : Int32), (0 ≤ y6.toInt ∧ y6.toInt ≤ 9) → pmE pg X pg_tyl pg_cl (d + 2) 117 68 [.ref 42, .ref 33, .int x2, .int x3, .int x4, .int y5, .int y6] [] (cd f A R wr) Q) : ∀ (m : Nat) (x5 : Int32) (x6 : Int32), (0 ≤ x6.toInt ∧ x6.toInt ≤ 9) → 9 - x6.toInt < (m : Int) → pmE pg X pg_tyl pg_cl (d + 2) 117 25 [.ref 42, .ref 33, .int x2, .int x3, .int x4, .int x5, .int x6] [] (cd f A R wr) Q := by
  have bv := VV_b hv
  intro m
  induction m with
  | zero =>
    intro x5 x6 gx6 hm
    exfalso
    have l0 := zi_lo x6
    have u0 := zi_hi x6
    omega
  | succ m ih =>
    intro x5 x6 gx6 hm
    refine pe_iload (j := 6) (by decide +kernel) rfl ?_
    refine pe_aload_n (j := 1) (by decide +kernel) rfl ?_
    refine pe_get (j := 44) (ci := 7) (n := 0) (by decide +kernel) (by decide +kernel) cd_o33 rfl ?_
    refine pe_topV (v := .ref v) (hR0) ?_
    refine pe_get (j := 48) (ci := 9) (n := 0) (by decide +kernel) (by decide +kernel) (cv_o hv) rfl ?_
    have hr_f_16v := cv_people hv hI
    refine pz_icmp_ge (off := 34) (t := 68) (by decide +kernel) (by decide) rfl rfl rfl (fun h1 => ?_) (fun h1 => ?_)
    · skip
      exact k_68_0 x5 x6 (by omega)
    · skip
      refine pe_iload (j := 5) (by decide +kernel) rfl ?_
      refine pe_iload_n (j := 3) (by decide +kernel) rfl ?_
      refine pe_iload (j := 6) (by decide +kernel) rfl ?_
      refine pi_S (j := 62) (mj := 89) (by decide +kernel) (by decide +kernel) rfl ?_
      show pmE pg X pg_tyl pg_cl (d + 1) 89 0 [.int x3, .int x6] [] (cd f A R wr) _
      refine pe_iload_n (j := 0) (by decide +kernel) rfl ?_
      refine pe_iload_n (j := 1) (by decide +kernel) rfl ?_
      refine pw_shr (by decide +kernel) (fun z2 => ?_)
      refine pe_iconstv (n := 1) (v := 1) (by decide +kernel) (by decide +kernel) ?_
      refine pz_and1 (by decide +kernel) (fun z3 hz3 => ?_)
      refine pz_if_eq (off := 7) (t := 12) (by decide +kernel) (by decide) rfl rfl (fun h4 => ?_) (fun h4 => ?_)
      · skip
        refine pe_iconstv (n := 0) (v := 0) (by decide +kernel) (by decide +kernel) ?_
        refine pe_iret (by decide +kernel) rfl rfl ⟨rfl, rfl, ?_⟩
        show pmE pg X pg_tyl pg_cl (d + 2) 117 45 [.ref 42, .ref 33, .int x2, .int x3, .int x4, .int x5, .int x6] [.int 0, .int x5] (cd f A R wr) _
        refine pz_if_eq (off := 13) (t := 58) (by decide +kernel) (by decide) rfl kz_0 (fun h5 => ?_) (fun h5 => by omega)
        refine pe_iconstv (n := 0) (v := 0) (by decide +kernel) (by decide +kernel) ?_
        refine pw_or (by decide +kernel) (fun z6 => ?_)
        refine pe_istore (j := 5) (ls' := [.ref 42, .ref 33, .int x2, .int x3, .int x4, .int z6, .int x6]) (by decide +kernel) (Nat.le_of_ble_eq_true rfl) rfl ?_
        refine pz_iinc (j := 6) (n := 1) (by decide +kernel) rfl rfl (by decide +kernel) (by omega) (by omega) (fun z7 hz7 => ?_)
        show pmE pg X pg_tyl pg_cl (d + 2) 117 65 [.ref 42, .ref 33, .int x2, .int x3, .int x4, .int z6, .int z7] [] (cd f A R wr) _
        refine pe_goto (off := (-40)) (t := 25) (by decide +kernel) (by decide) rfl ?_
        exact ih z6 z7 (by omega) (by omega)
      · skip
        refine pe_iconstv (n := 1) (v := 1) (by decide +kernel) (by decide +kernel) ?_
        refine pe_goto (off := 4) (t := 13) (by decide +kernel) (by decide) rfl ?_
        refine pe_iret (by decide +kernel) rfl rfl ⟨rfl, rfl, ?_⟩
        show pmE pg X pg_tyl pg_cl (d + 2) 117 45 [.ref 42, .ref 33, .int x2, .int x3, .int x4, .int x5, .int x6] [.int 1, .int x5] (cd f A R wr) _
        refine pz_if_eq (off := 13) (t := 58) (by decide +kernel) (by decide) rfl kz_1 (fun h8 => by omega) (fun h8 => ?_)
        refine pe_aload_n (j := 0) (by decide +kernel) rfl ?_
        refine pe_aload_n (j := 1) (by decide +kernel) rfl ?_
        refine pe_iload (j := 6) (by decide +kernel) rfl ?_
        refine pz_callV (j := 54) (mj := 115) (by decide +kernel) (cll_V (args := [.int x6, .ref 33]) (n := 2) (by decide +kernel) rfl rfl cd_o42 (by decide +kernel) (Nat.le_of_ble_eq_true rfl) (Nat.le_of_ble_eq_true rfl)) (CM_115 hX hI hv (hR0) (by omega)) (fun q9a q9b q9c q9d hqq9 => ?_)
        obtain ⟨rq9, eq9, kq9⟩ := hqq9
        cases eq9
        refine ⟨rfl, rfl, ?_⟩
        show pmE pg X pg_tyl pg_cl (d + 2) 117 55 [.ref 42, .ref 33, .int x2, .int x3, .int x4, .int x5, .int x6] [.int rq9, .int x5] (cd f A R wr) _
        refine pe_goto (off := 4) (t := 59) (by decide +kernel) (by decide) rfl ?_
        refine pw_or (by decide +kernel) (fun z10 => ?_)
        refine pe_istore (j := 5) (ls' := [.ref 42, .ref 33, .int x2, .int x3, .int x4, .int z10, .int x6]) (by decide +kernel) (Nat.le_of_ble_eq_true rfl) rfl ?_
        refine pz_iinc (j := 6) (n := 1) (by decide +kernel) rfl rfl (by decide +kernel) (by omega) (by omega) (fun z11 hz11 => ?_)
        show pmE pg X pg_tyl pg_cl (d + 2) 117 65 [.ref 42, .ref 33, .int x2, .int x3, .int x4, .int z10, .int z11] [] (cd f A R wr) _
        refine pe_goto (off := (-40)) (t := 25) (by decide +kernel) (by decide) rfl ?_
        exact ih z10 z11 (by omega) (by omega)
set_option maxRecDepth 100000 in
set_option maxHeartbeats 8000000 in
theorem CL_117_7 {X : pm_X} {d : Nat} {wr : pm_W} {Q : pm_R → Prop} {f : Nat → Int32} {A : Nat → List Int32} {R : Nat → Value} {x2 : Int32} {v : Nat} (hX : XO X) (hI : CI f A R) (hv : VV v) (hR0 : R 0 = .ref v) (gx2 : (0 ≤ x2.toInt ∧ x2.toInt ≤ 8)) (k_77_0 : ∀ (y3 : Int32) (y4 : Int32) (v5 : Value) (v6 : Value), (0 ≤ y4.toInt ∧ y4.toInt ≤ 9) → pmE pg X pg_tyl pg_cl (d + 2) 117 77 [.ref 42, .ref 33, .int x2, .int y3, .int y4, v5, v6] [] (cd f A R wr) Q) : ∀ (m : Nat) (x3 : Int32) (x4 : Int32) (u5 : Value) (u6 : Value), (0 ≤ x4.toInt ∧ x4.toInt ≤ 9) → 9 - x4.toInt < (m : Int) → pmE pg X pg_tyl pg_cl (d + 2) 117 7 [.ref 42, .ref 33, .int x2, .int x3, .int x4, u5, u6] [] (cd f A R wr) Q := by
  have bv := VV_b hv
  intro m
  induction m with
  | zero =>
    intro x3 x4 u5 u6 gx4 hm
    exfalso
    have l0 := zi_lo x4
    have u0 := zi_hi x4
    omega
  | succ m ih =>
    intro x3 x4 u5 u6 gx4 hm
    refine pe_iload (j := 4) (by decide +kernel) rfl ?_
    refine pe_aload_n (j := 1) (by decide +kernel) rfl ?_
    refine pe_get (j := 44) (ci := 7) (n := 0) (by decide +kernel) (by decide +kernel) cd_o33 rfl ?_
    refine pe_topV (v := .ref v) (hR0) ?_
    refine pe_get (j := 48) (ci := 9) (n := 0) (by decide +kernel) (by decide +kernel) (cv_o hv) rfl ?_
    have hr_f_16v := cv_people hv hI
    refine pz_icmp_ge (off := 61) (t := 77) (by decide +kernel) (by decide) rfl rfl rfl (fun h1 => ?_) (fun h1 => ?_)
    · skip
      exact k_77_0 x3 x4 (u5) (u6) (by omega)
    · skip
      refine pe_iload_n (j := 3) (by decide +kernel) rfl ?_
      refine pe_istore (j := 5) (ls' := [.ref 42, .ref 33, .int x2, .int x3, .int x4, .int x3, u6]) (by decide +kernel) (Nat.le_of_ble_eq_true rfl) rfl ?_
      refine pe_iconstv (n := 0) (v := 0) (by decide +kernel) (by decide +kernel) ?_
      refine pe_istore (j := 6) (ls' := [.ref 42, .ref 33, .int x2, .int x3, .int x4, .int x3, .int 0]) (by decide +kernel) (Nat.le_of_ble_eq_true rfl) rfl ?_
      refine CL_117_25 hX hI hv (hR0) (by omega) (by omega) (fun y2 y3 gy3 => ?_) 10 x3 0 (by decide +kernel) (by decide +kernel)
      refine pe_iload (j := 5) (by decide +kernel) rfl ?_
      refine pe_istore_n (j := 3) (ls' := [.ref 42, .ref 33, .int x2, .int y2, .int x4, .int y2, .int y3]) (by decide +kernel) (Nat.le_of_ble_eq_true rfl) rfl ?_
      refine pz_iinc (j := 4) (n := 1) (by decide +kernel) rfl rfl (by decide +kernel) (by omega) (by omega) (fun z4 hz4 => ?_)
      show pmE pg X pg_tyl pg_cl (d + 2) 117 74 [.ref 42, .ref 33, .int x2, .int y2, .int z4, .int y2, .int y3] [] (cd f A R wr) _
      refine pe_goto (off := (-67)) (t := 7) (by decide +kernel) (by decide) rfl ?_
      exact ih y2 z4 (.int y2) (.int y3) (by omega) (by omega)
set_option maxRecDepth 100000 in
set_option maxHeartbeats 8000000 in
theorem CM_117 {X : pm_X} {d : Nat} {wr : pm_W} {f : Nat → Int32} {A : Nat → List Int32} {R : Nat → Value} {x2 : Int32} {v : Nat} (hX : XO X) (hI : CI f A R) (hv : VV v) (hR0 : R 0 = .ref v) (gx2 : (0 ≤ x2.toInt ∧ x2.toInt ≤ 8)) : pmE pg X pg_tyl pg_cl (d + 2) 117 0 (pm_ent (pm_max pg 117) [.ref 42, .ref 33, .int x2]) [] (cd f A R wr) (fun q => ∃ (r : Int32), q = (some (.int r), cd f A R wr, 0, 0) ∧ ((True ∧ True))) := by
  have bv := VV_b hv
  show pmE pg X pg_tyl pg_cl (d + 2) 117 0 [.ref 42, .ref 33, .int x2, pm_dead, pm_dead, pm_dead, pm_dead] [] (cd f A R wr) _
  refine pe_iconstv (n := 1) (v := 1) (by decide +kernel) (by decide +kernel) ?_
  refine pe_iload_n (j := 2) (by decide +kernel) rfl ?_
  refine pz_shl1 (by decide +kernel) rfl (by omega) (by omega) (fun z1 hz1 => ?_)
  refine pe_istore_n (j := 3) (ls' := [.ref 42, .ref 33, .int x2, .int z1, pm_dead, pm_dead, pm_dead]) (by decide +kernel) (Nat.le_of_ble_eq_true rfl) rfl ?_
  refine pe_iconstv (n := 0) (v := 0) (by decide +kernel) (by decide +kernel) ?_
  refine pe_istore (j := 4) (ls' := [.ref 42, .ref 33, .int x2, .int z1, .int 0, pm_dead, pm_dead]) (by decide +kernel) (Nat.le_of_ble_eq_true rfl) rfl ?_
  refine CL_117_7 hX hI hv (hR0) (by omega) (fun y2 y3 u4 u5 gy3 => ?_) 10 z1 0 (pm_dead) (pm_dead) (by decide +kernel) (by decide +kernel)
  refine pe_iload_n (j := 3) (by decide +kernel) rfl ?_
  exact pe_iret (by decide +kernel) rfl rfl ⟨y2, rfl, ⟨trivial, trivial⟩⟩
set_option maxRecDepth 100000 in
set_option maxHeartbeats 8000000 in
theorem CL_116_11 {X : pm_X} {d : Nat} {wr : pm_W} {Q : pm_R → Prop} {f : Nat → Int32} {A : Nat → List Int32} {R : Nat → Value} {v : Nat} (hX : XO X) (hI : CI f A R) (hv : VV v) (hR0 : R 0 = .ref v) (k_51_0 : ∀ (y2 : Int32) (y3 : Int32) (y4 : Int32), (0 ≤ y4.toInt ∧ y4.toInt ≤ 9) → pmE pg X pg_tyl pg_cl (d + 3) 116 51 [.ref 42, .ref 33, .int y2, .int y3, .int y4] [] (cd f A R wr) Q) : ∀ (m : Nat) (x2 : Int32) (x3 : Int32) (x4 : Int32), (0 ≤ x4.toInt ∧ x4.toInt ≤ 9) → 9 - x4.toInt < (m : Int) → pmE pg X pg_tyl pg_cl (d + 3) 116 11 [.ref 42, .ref 33, .int x2, .int x3, .int x4] [] (cd f A R wr) Q := by
  have bv := VV_b hv
  intro m
  induction m with
  | zero =>
    intro x2 x3 x4 gx4 hm
    exfalso
    have l0 := zi_lo x4
    have u0 := zi_hi x4
    omega
  | succ m ih =>
    intro x2 x3 x4 gx4 hm
    refine pe_iload (j := 4) (by decide +kernel) rfl ?_
    refine pe_aload_n (j := 1) (by decide +kernel) rfl ?_
    refine pe_get (j := 44) (ci := 7) (n := 0) (by decide +kernel) (by decide +kernel) cd_o33 rfl ?_
    refine pe_topV (v := .ref v) (hR0) ?_
    refine pe_get (j := 48) (ci := 9) (n := 0) (by decide +kernel) (by decide +kernel) (cv_o hv) rfl ?_
    have hr_f_16v := cv_people hv hI
    refine pz_icmp_ge (off := 31) (t := 51) (by decide +kernel) (by decide) rfl rfl rfl (fun h1 => ?_) (fun h1 => ?_)
    · skip
      exact k_51_0 x2 x3 x4 (by omega)
    · skip
      refine pe_iload_n (j := 2) (by decide +kernel) rfl ?_
      refine pe_iload (j := 4) (by decide +kernel) rfl ?_
      refine pi_S (j := 62) (mj := 89) (by decide +kernel) (by decide +kernel) rfl ?_
      show pmE pg X pg_tyl pg_cl (d + 2) 89 0 [.int x2, .int x4] [] (cd f A R wr) _
      refine pe_iload_n (j := 0) (by decide +kernel) rfl ?_
      refine pe_iload_n (j := 1) (by decide +kernel) rfl ?_
      refine pw_shr (by decide +kernel) (fun z2 => ?_)
      refine pe_iconstv (n := 1) (v := 1) (by decide +kernel) (by decide +kernel) ?_
      refine pz_and1 (by decide +kernel) (fun z3 hz3 => ?_)
      refine pz_if_eq (off := 7) (t := 12) (by decide +kernel) (by decide) rfl rfl (fun h4 => ?_) (fun h4 => ?_)
      · skip
        refine pe_iconstv (n := 0) (v := 0) (by decide +kernel) (by decide +kernel) ?_
        refine pe_iret (by decide +kernel) rfl rfl ⟨rfl, rfl, ?_⟩
        show pmE pg X pg_tyl pg_cl (d + 3) 116 29 [.ref 42, .ref 33, .int x2, .int x3, .int x4] [.int 0] (cd f A R wr) _
        refine pz_if_ne (off := 16) (t := 45) (by decide +kernel) (by decide) rfl kz_0 (fun h5 => by omega) (fun h5 => ?_)
        refine pe_iload_n (j := 2) (by decide +kernel) rfl ?_
        refine pe_aload_n (j := 0) (by decide +kernel) rfl ?_
        refine pe_aload_n (j := 1) (by decide +kernel) rfl ?_
        refine pe_iload (j := 4) (by decide +kernel) rfl ?_
        refine pz_callV (j := 66) (mj := 117) (by decide +kernel) (cll_V (args := [.int x4, .ref 33]) (n := 2) (by decide +kernel) rfl rfl cd_o42 (by decide +kernel) (Nat.le_of_ble_eq_true rfl) (Nat.le_of_ble_eq_true rfl)) (CM_117 hX hI hv (hR0) (by omega)) (fun q6a q6b q6c q6d hqq6 => ?_)
        obtain ⟨rq6, eq6, kq6⟩ := hqq6
        cases eq6
        refine ⟨rfl, rfl, ?_⟩
        show pmE pg X pg_tyl pg_cl (d + 3) 116 40 [.ref 42, .ref 33, .int x2, .int x3, .int x4] [.int rq6, .int x2] (cd f A R wr) _
        refine pw_or (by decide +kernel) (fun z7 => ?_)
        refine pe_istore_n (j := 2) (ls' := [.ref 42, .ref 33, .int z7, .int x3, .int x4]) (by decide +kernel) (Nat.le_of_ble_eq_true rfl) rfl ?_
        refine pw_iinc (j := 3) (n := 1) (by decide +kernel) rfl (fun z8 => ?_)
        show pmE pg X pg_tyl pg_cl (d + 3) 116 45 [.ref 42, .ref 33, .int z7, .int z8, .int x4] [] (cd f A R wr) _
        refine pz_iinc (j := 4) (n := 1) (by decide +kernel) rfl rfl (by decide +kernel) (by omega) (by omega) (fun z9 hz9 => ?_)
        show pmE pg X pg_tyl pg_cl (d + 3) 116 48 [.ref 42, .ref 33, .int z7, .int z8, .int z9] [] (cd f A R wr) _
        refine pe_goto (off := (-37)) (t := 11) (by decide +kernel) (by decide) rfl ?_
        exact ih z7 z8 z9 (by omega) (by omega)
      · skip
        refine pe_iconstv (n := 1) (v := 1) (by decide +kernel) (by decide +kernel) ?_
        refine pe_goto (off := 4) (t := 13) (by decide +kernel) (by decide) rfl ?_
        refine pe_iret (by decide +kernel) rfl rfl ⟨rfl, rfl, ?_⟩
        show pmE pg X pg_tyl pg_cl (d + 3) 116 29 [.ref 42, .ref 33, .int x2, .int x3, .int x4] [.int 1] (cd f A R wr) _
        refine pz_if_ne (off := 16) (t := 45) (by decide +kernel) (by decide) rfl kz_1 (fun h10 => ?_) (fun h10 => by omega)
        refine pz_iinc (j := 4) (n := 1) (by decide +kernel) rfl rfl (by decide +kernel) (by omega) (by omega) (fun z11 hz11 => ?_)
        show pmE pg X pg_tyl pg_cl (d + 3) 116 48 [.ref 42, .ref 33, .int x2, .int x3, .int z11] [] (cd f A R wr) _
        refine pe_goto (off := (-37)) (t := 11) (by decide +kernel) (by decide) rfl ?_
        exact ih x2 x3 z11 (by omega) (by omega)
set_option maxRecDepth 100000 in
set_option maxHeartbeats 8000000 in
theorem CM_116 {X : pm_X} {d : Nat} {wr : pm_W} {f : Nat → Int32} {A : Nat → List Int32} {R : Nat → Value} {v : Nat} (hX : XO X) (hI : CI f A R) (hv : VV v) (hR0 : R 0 = .ref v) : pmE pg X pg_tyl pg_cl (d + 3) 116 0 (pm_ent (pm_max pg 116) [.ref 42, .ref 33]) [] (cd f A R wr) (fun q => ∃ (r : Int32), q = (some (.int r), cd f A R wr, 0, 0) ∧ ((True ∧ True))) := by
  have bv := VV_b hv
  show pmE pg X pg_tyl pg_cl (d + 3) 116 0 [.ref 42, .ref 33, pm_dead, pm_dead, pm_dead] [] (cd f A R wr) _
  refine pe_aload_n (j := 0) (by decide +kernel) rfl ?_
  refine pe_aload_n (j := 1) (by decide +kernel) rfl ?_
  refine pz_callV (j := 58) (mj := 114) (by decide +kernel) (cll_V (args := [.ref 33]) (n := 1) (by decide +kernel) rfl rfl cd_o42 (by decide +kernel) (Nat.le_of_ble_eq_true rfl) (Nat.le_of_ble_eq_true rfl)) (CM_114 hX hI hv (hR0)) (fun q1a q1b q1c q1d hqq1 => ?_)
  obtain ⟨rq1, eq1, kq1⟩ := hqq1
  cases eq1
  refine ⟨rfl, rfl, ?_⟩
  show pmE pg X pg_tyl pg_cl (d + 3) 116 5 [.ref 42, .ref 33, pm_dead, pm_dead, pm_dead] [.int rq1] (cd f A R wr) _
  refine pe_istore_n (j := 2) (ls' := [.ref 42, .ref 33, .int rq1, pm_dead, pm_dead]) (by decide +kernel) (Nat.le_of_ble_eq_true rfl) rfl ?_
  refine pe_iconstv (n := 0) (v := 0) (by decide +kernel) (by decide +kernel) ?_
  refine pe_istore_n (j := 3) (ls' := [.ref 42, .ref 33, .int rq1, .int 0, pm_dead]) (by decide +kernel) (Nat.le_of_ble_eq_true rfl) rfl ?_
  refine pe_iconstv (n := 0) (v := 0) (by decide +kernel) (by decide +kernel) ?_
  refine pe_istore (j := 4) (ls' := [.ref 42, .ref 33, .int rq1, .int 0, .int 0]) (by decide +kernel) (Nat.le_of_ble_eq_true rfl) rfl ?_
  refine CL_116_11 hX hI hv (hR0) (fun y2 y3 y4 gy4 => ?_) 10 rq1 0 0 (by decide +kernel) (by decide +kernel)
  refine pe_iload_n (j := 3) (by decide +kernel) rfl ?_
  exact pe_iret (by decide +kernel) rfl rfl ⟨y3, rfl, ⟨trivial, trivial⟩⟩
set_option maxRecDepth 100000 in
set_option maxHeartbeats 8000000 in
theorem CL_118_7 {X : pm_X} {d : Nat} {wr : pm_W} {Q : pm_R → Prop} {f0 : Nat → Int32} {A0 : Nat → List Int32} {R0 : Nat → Value} {v : Nat} (hX : XO X) (hv : VV v) (hR0 : R0 0 = .ref v) (k_69_0 : ∀ (f' : Nat → Int32) (A' : Nat → List Int32) (R' : Nat → Value) (y2 : Int32) (y3 : Int32) (y4 : Int32) (v5 : Value), CI f' A' R' → (∀ k : Nat, k ≠ 737 → k ≠ 738 → f' k = f0 k) → (∀ k : Nat, k ≠ 52 → k ≠ 53 → A' k = A0 k) → (∀ k : Nat, k ≠ 1 → R' k = R0 k) → (0 ≤ y2.toInt) → (0 ≤ y4.toInt ∧ y4.toInt ≤ 9) → pmE pg X pg_tyl pg_cl (d + 4) 118 69 [.ref 42, .ref 33, .int y2, .int y3, .int y4, v5] [] (cd f' A' R' wr) Q) : ∀ (m : Nat) (f : Nat → Int32) (A : Nat → List Int32) (R : Nat → Value) (x2 : Int32) (x3 : Int32) (x4 : Int32) (u5 : Value), CI f A R → (∀ k : Nat, k ≠ 737 → k ≠ 738 → f k = f0 k) → (∀ k : Nat, k ≠ 52 → k ≠ 53 → A k = A0 k) → (∀ k : Nat, k ≠ 1 → R k = R0 k) → (0 ≤ x2.toInt) → (0 ≤ x4.toInt ∧ x4.toInt ≤ 9) → 9 - x4.toInt < (m : Int) → pmE pg X pg_tyl pg_cl (d + 4) 118 7 [.ref 42, .ref 33, .int x2, .int x3, .int x4, u5] [] (cd f A R wr) Q := by
  have bv := VV_b hv
  intro m
  induction m with
  | zero =>
    intro f A R x2 x3 x4 u5 hI hG hF hH gx2 gx4 hm
    exfalso
    have l0 := zi_lo x4
    have u0 := zi_hi x4
    omega
  | succ m ih =>
    intro f A R x2 x3 x4 u5 hI hG hF hH gx2 gx4 hm
    refine pe_iload (j := 4) (by decide +kernel) rfl ?_
    refine pe_aload_n (j := 1) (by decide +kernel) rfl ?_
    refine pe_get (j := 44) (ci := 7) (n := 0) (by decide +kernel) (by decide +kernel) cd_o33 rfl ?_
    refine pe_topV (v := .ref v) (((hH 0 (by decide))).trans (hR0)) ?_
    refine pe_get (j := 48) (ci := 9) (n := 0) (by decide +kernel) (by decide +kernel) (cv_o hv) rfl ?_
    have hr_f_16v := cv_people hv hI
    refine pz_icmp_ge (off := 53) (t := 69) (by decide +kernel) (by decide) rfl rfl rfl (fun h1 => ?_) (fun h1 => ?_)
    · skip
      exact k_69_0 f A R x2 x3 x4 (u5) hI (fun k n737 n738 => (hG k n737 n738)) (fun k n52 n53 => (hF k n52 n53)) (fun k n1 => (hH k n1)) (by omega) (by omega)
    · skip
      refine pe_aload_n (j := 0) (by decide +kernel) rfl ?_
      refine pe_get (j := 24) (ci := 1) (n := 3) (by decide +kernel) (by decide +kernel) cd_o42 rfl ?_
      refine pe_aload_n (j := 1) (by decide +kernel) rfl ?_
      refine pi_V (j := 69) (mj := 119) (by decide +kernel) (cll_V (args := [.ref 33]) (n := 1) (by decide +kernel) rfl rfl cd_o46 (by decide +kernel) (Nat.le_of_ble_eq_true rfl) (Nat.le_of_ble_eq_true rfl)) ?_
      show pmE pg X pg_tyl pg_cl (d + 3) 119 0 [.ref 46, .ref 33] [] (cd f A R wr) _
      refine pe_aload_n (j := 0) (by decide +kernel) rfl ?_
      refine pe_aload_n (j := 1) (by decide +kernel) rfl ?_
      refine pe_get (j := 12) (ci := 7) (n := 0) (by decide +kernel) (by decide +kernel) cd_o33 rfl ?_
      refine pe_topV (v := .ref v) (((hH 0 (by decide))).trans (hR0)) ?_
      refine cz_putR1 (jj := 12) (ty := (.object "RingVillage$Village")) (by decide +kernel) (by decide +kernel) hI pm_fit_obj ⟨_, rfl⟩ (fun R2 eR2 hIR2 => ?_)
      refine pe_aload_n (j := 0) (by decide +kernel) rfl ?_
      refine pe_aload_n (j := 1) (by decide +kernel) rfl ?_
      refine pe_get (j := 28) (ci := 7) (n := 1) (by decide +kernel) (by decide +kernel) cd_o33 rfl ?_
      refine cz_put737 (jj := 28) (by decide +kernel) (by decide +kernel) hIR2 (fun f3 ef3 hIf3 => ?_)
      refine pe_aload_n (j := 0) (by decide +kernel) rfl ?_
      refine pe_aload_n (j := 1) (by decide +kernel) rfl ?_
      refine pe_get (j := 32) (ci := 7) (n := 2) (by decide +kernel) (by decide +kernel) cd_o33 rfl ?_
      have hr_f_530 := cf_530 hI
      refine pe_top (v := (f 530)) (upf_fr ef3 (by decide)) ?_
      refine cz_put738 (jj := 32) (by decide +kernel) (by decide +kernel) hIf3 (by omega) (by omega) (fun f4 ef4 hIf4 => ?_)
      refine pe_aload_n (j := 1) (by decide +kernel) rfl ?_
      refine pe_get (j := 18) (ci := 7) (n := 3) (by decide +kernel) (by decide +kernel) cd_o33 rfl ?_
      refine pe_iconstv (n := 0) (v := 0) (by decide +kernel) (by decide +kernel) ?_
      refine pe_aload_n (j := 0) (by decide +kernel) rfl ?_
      refine pe_get (j := 18) (ci := 7) (n := 3) (by decide +kernel) (by decide +kernel) cd_o46 rfl ?_
      refine pe_iconstv (n := 0) (v := 0) (by decide +kernel) (by decide +kernel) ?_
      refine pe_bipushv (n := 81) (v := 81) (by decide +kernel) (by decide +kernel) ?_
      have hl5 := kz_81
      have hl6 := kz_0
      have hl7 := kz_0
      refine cz_copy (j := 41) (a := 0) (b := 0) (c := 81) (by decide +kernel) (by decide +kernel) (Nat.le_of_ble_eq_true rfl) cd_a39 cd_a52 (by decide +kernel) (fun _ => cd_s52) hIf4 (cl_39 hIf4) (cl_52 hIf4) kz_0 kz_0 kz_81 (by omega) (by omega) (by omega) (by omega) (by omega) (Or.inl rfl) (ct_no (by decide +kernel)) (fun A8 eA8 hIA8 => ?_)
      refine pe_aload_n (j := 1) (by decide +kernel) rfl ?_
      refine pe_get (j := 22) (ci := 7) (n := 4) (by decide +kernel) (by decide +kernel) cd_o33 rfl ?_
      refine pe_iconstv (n := 0) (v := 0) (by decide +kernel) (by decide +kernel) ?_
      refine pe_aload_n (j := 0) (by decide +kernel) rfl ?_
      refine pe_get (j := 22) (ci := 7) (n := 4) (by decide +kernel) (by decide +kernel) cd_o46 rfl ?_
      refine pe_iconstv (n := 0) (v := 0) (by decide +kernel) (by decide +kernel) ?_
      refine pe_aload_n (j := 0) (by decide +kernel) rfl ?_
      refine pe_get (j := 32) (ci := 7) (n := 2) (by decide +kernel) (by decide +kernel) cd_o46 rfl ?_
      refine pe_top (v := (f 530)) (upf_at ef4) ?_
      refine pe_bipushv (n := 10) (v := 10) (by decide +kernel) (by decide +kernel) ?_
      refine pz_mul (by decide +kernel) rfl kz_10 (by omega) (by omega) (fun z9 hz9 => ?_)
      have hl10 := kz_0
      have hl11 := kz_0
      refine cz_copy (j := 41) (a := 0) (b := 0) (c := ((f 530).toInt * 10)) (by decide +kernel) (by decide +kernel) (Nat.le_of_ble_eq_true rfl) cd_a40 cd_a53 (by decide +kernel) (fun _ => cd_s53) hIA8 (cl_40 hIA8) (cl_53 hIA8) kz_0 kz_0 hz9 (by omega) (by omega) (by omega) (by omega) (by omega) (Or.inl rfl) (ct_one (kd := 1) (P := fun kd => ∀ i, i < (((f 530).toInt * 10) : Int).toNat → CT kd ((0 : Int).toNat + i) ((A8 40).getD ((0 : Int).toNat + i) 0).toInt) (by decide +kernel) (fun i _ => ct_40 hIA8 rfl)) (fun A12 eA12 hIA12 => ?_)
      refine pe_vret (by decide +kernel) rfl ⟨rfl, rfl, ?_⟩
      show pmE pg X pg_tyl pg_cl (d + 4) 118 27 [.ref 42, .ref 33, .int x2, .int x3, .int x4, u5] [] (cd f4 A12 R2 wr) _
      refine pe_aload_n (j := 0) (by decide +kernel) rfl ?_
      refine pe_get (j := 24) (ci := 1) (n := 3) (by decide +kernel) (by decide +kernel) cd_o42 rfl ?_
      refine pe_iload (j := 4) (by decide +kernel) rfl ?_
      refine pz_callV (j := 73) (mj := 86) (by decide +kernel) (cll_V (args := [.int x4]) (n := 1) (by decide +kernel) rfl rfl cd_o46 (by decide +kernel) (Nat.le_of_ble_eq_true rfl) (Nat.le_of_ble_eq_true rfl)) (CM_86_1 hX hIA12 hv (upr_at eR2)) (fun q13a q13b q13c q13d hqq13 => ?_)
      obtain ⟨A14, rq13, eq13, hIq13, hFq13, kq13⟩ := hqq13
      cases eq13
      refine ⟨rfl, rfl, ?_⟩
      rcases kq13 with kq13 | kq13
      · skip
        obtain ⟨erq13, kq13⟩ := kq13
        subst erq13
        show pmE pg X pg_tyl pg_cl (d + 4) 118 36 [.ref 42, .ref 33, .int x2, .int x3, .int x4, u5] [.int 0] (cd f4 A14 R2 wr) _
        refine pe_pop (by decide +kernel) rfl ?_
        refine pe_aload_n (j := 0) (by decide +kernel) rfl ?_
        refine pe_get (j := 24) (ci := 1) (n := 3) (by decide +kernel) (by decide +kernel) cd_o42 rfl ?_
        refine pz_callV (j := 28) (mj := 105) (by decide +kernel) (cll_V (args := []) (n := 0) (by decide +kernel) rfl rfl cd_o46 (by decide +kernel) (Nat.le_of_ble_eq_true rfl) (Nat.le_of_ble_eq_true rfl)) (CM_105_1 hX hIq13) (fun q15a q15b q15c q15d hqq15 => ?_)
        obtain ⟨rq15, eq15, kq15⟩ := hqq15
        cases eq15
        refine ⟨rfl, rfl, ?_⟩
        show pmE pg X pg_tyl pg_cl (d + 4) 118 44 [.ref 42, .ref 33, .int x2, .int x3, .int x4, u5] [.int rq15] (cd f4 A14 R2 wr) _
        refine pe_istore (j := 5) (ls' := [.ref 42, .ref 33, .int x2, .int x3, .int x4, .int rq15]) (by decide +kernel) (Nat.le_of_ble_eq_true rfl) rfl ?_
        refine pe_iload (j := 4) (by decide +kernel) rfl ?_
        refine pz_if_eq (off := 9) (t := 57) (by decide +kernel) (by decide) rfl rfl (fun h16 => ?_) (fun h16 => ?_)
        · skip
          refine pe_iload (j := 4) (by decide +kernel) rfl ?_
          refine pe_istore_n (j := 2) (ls' := [.ref 42, .ref 33, .int x4, .int x3, .int x4, .int rq15]) (by decide +kernel) (Nat.le_of_ble_eq_true rfl) rfl ?_
          refine pe_iload (j := 5) (by decide +kernel) rfl ?_
          refine pe_istore_n (j := 3) (ls' := [.ref 42, .ref 33, .int x4, .int rq15, .int x4, .int rq15]) (by decide +kernel) (Nat.le_of_ble_eq_true rfl) rfl ?_
          refine pz_iinc (j := 4) (n := 1) (by decide +kernel) rfl rfl (by decide +kernel) (by omega) (by omega) (fun z17 hz17 => ?_)
          show pmE pg X pg_tyl pg_cl (d + 4) 118 66 [.ref 42, .ref 33, .int x4, .int rq15, .int z17, .int rq15] [] (cd f4 A14 R2 wr) _
          refine pe_goto (off := (-59)) (t := 7) (by decide +kernel) (by decide) rfl ?_
          exact ih f4 A14 R2 x4 rq15 z17 (.int rq15) hIq13 (fun k n737 n738 => (upf_fr ef4 n738).trans ((upf_fr ef3 n737).trans ((hG k n737 n738)))) (fun k n52 n53 => ((hFq13 k n52 n53)).trans ((upa_fr eA12 n53).trans ((upa_fr eA8 n52).trans ((hF k n52 n53))))) (fun k n1 => (upr_fr eR2 n1).trans ((hH k n1))) (by omega) (by omega) (by omega)
        · skip
          refine pe_iload (j := 5) (by decide +kernel) rfl ?_
          refine pe_iload_n (j := 3) (by decide +kernel) rfl ?_
          have lw19 := zi_lo rq15
          have uw19 := zi_hi rq15
          have lw20 := zi_lo x3
          have uw20 := zi_hi x3
          refine pz_icmp_ge (off := 9) (t := 63) (by decide +kernel) (by decide) rfl rfl rfl (fun h18 => ?_) (fun h18 => ?_)
          · skip
            refine pz_iinc (j := 4) (n := 1) (by decide +kernel) rfl rfl (by decide +kernel) (by omega) (by omega) (fun z21 hz21 => ?_)
            show pmE pg X pg_tyl pg_cl (d + 4) 118 66 [.ref 42, .ref 33, .int x2, .int x3, .int z21, .int rq15] [] (cd f4 A14 R2 wr) _
            refine pe_goto (off := (-59)) (t := 7) (by decide +kernel) (by decide) rfl ?_
            exact ih f4 A14 R2 x2 x3 z21 (.int rq15) hIq13 (fun k n737 n738 => (upf_fr ef4 n738).trans ((upf_fr ef3 n737).trans ((hG k n737 n738)))) (fun k n52 n53 => ((hFq13 k n52 n53)).trans ((upa_fr eA12 n53).trans ((upa_fr eA8 n52).trans ((hF k n52 n53))))) (fun k n1 => (upr_fr eR2 n1).trans ((hH k n1))) (by omega) (by omega) (by omega)
          · skip
            refine pe_iload (j := 4) (by decide +kernel) rfl ?_
            refine pe_istore_n (j := 2) (ls' := [.ref 42, .ref 33, .int x4, .int x3, .int x4, .int rq15]) (by decide +kernel) (Nat.le_of_ble_eq_true rfl) rfl ?_
            refine pe_iload (j := 5) (by decide +kernel) rfl ?_
            refine pe_istore_n (j := 3) (ls' := [.ref 42, .ref 33, .int x4, .int rq15, .int x4, .int rq15]) (by decide +kernel) (Nat.le_of_ble_eq_true rfl) rfl ?_
            refine pz_iinc (j := 4) (n := 1) (by decide +kernel) rfl rfl (by decide +kernel) (by omega) (by omega) (fun z22 hz22 => ?_)
            show pmE pg X pg_tyl pg_cl (d + 4) 118 66 [.ref 42, .ref 33, .int x4, .int rq15, .int z22, .int rq15] [] (cd f4 A14 R2 wr) _
            refine pe_goto (off := (-59)) (t := 7) (by decide +kernel) (by decide) rfl ?_
            exact ih f4 A14 R2 x4 rq15 z22 (.int rq15) hIq13 (fun k n737 n738 => (upf_fr ef4 n738).trans ((upf_fr ef3 n737).trans ((hG k n737 n738)))) (fun k n52 n53 => ((hFq13 k n52 n53)).trans ((upa_fr eA12 n53).trans ((upa_fr eA8 n52).trans ((hF k n52 n53))))) (fun k n1 => (upr_fr eR2 n1).trans ((hH k n1))) (by omega) (by omega) (by omega)
      · skip
        obtain ⟨erq13, kq13⟩ := kq13
        subst erq13
        show pmE pg X pg_tyl pg_cl (d + 4) 118 36 [.ref 42, .ref 33, .int x2, .int x3, .int x4, u5] [.int 1] (cd f4 A14 R2 wr) _
        refine pe_pop (by decide +kernel) rfl ?_
        refine pe_aload_n (j := 0) (by decide +kernel) rfl ?_
        refine pe_get (j := 24) (ci := 1) (n := 3) (by decide +kernel) (by decide +kernel) cd_o42 rfl ?_
        refine pz_callV (j := 28) (mj := 105) (by decide +kernel) (cll_V (args := []) (n := 0) (by decide +kernel) rfl rfl cd_o46 (by decide +kernel) (Nat.le_of_ble_eq_true rfl) (Nat.le_of_ble_eq_true rfl)) (CM_105_1 hX hIq13) (fun q23a q23b q23c q23d hqq23 => ?_)
        obtain ⟨rq23, eq23, kq23⟩ := hqq23
        cases eq23
        refine ⟨rfl, rfl, ?_⟩
        show pmE pg X pg_tyl pg_cl (d + 4) 118 44 [.ref 42, .ref 33, .int x2, .int x3, .int x4, u5] [.int rq23] (cd f4 A14 R2 wr) _
        refine pe_istore (j := 5) (ls' := [.ref 42, .ref 33, .int x2, .int x3, .int x4, .int rq23]) (by decide +kernel) (Nat.le_of_ble_eq_true rfl) rfl ?_
        refine pe_iload (j := 4) (by decide +kernel) rfl ?_
        refine pz_if_eq (off := 9) (t := 57) (by decide +kernel) (by decide) rfl rfl (fun h24 => ?_) (fun h24 => ?_)
        · skip
          refine pe_iload (j := 4) (by decide +kernel) rfl ?_
          refine pe_istore_n (j := 2) (ls' := [.ref 42, .ref 33, .int x4, .int x3, .int x4, .int rq23]) (by decide +kernel) (Nat.le_of_ble_eq_true rfl) rfl ?_
          refine pe_iload (j := 5) (by decide +kernel) rfl ?_
          refine pe_istore_n (j := 3) (ls' := [.ref 42, .ref 33, .int x4, .int rq23, .int x4, .int rq23]) (by decide +kernel) (Nat.le_of_ble_eq_true rfl) rfl ?_
          refine pz_iinc (j := 4) (n := 1) (by decide +kernel) rfl rfl (by decide +kernel) (by omega) (by omega) (fun z25 hz25 => ?_)
          show pmE pg X pg_tyl pg_cl (d + 4) 118 66 [.ref 42, .ref 33, .int x4, .int rq23, .int z25, .int rq23] [] (cd f4 A14 R2 wr) _
          refine pe_goto (off := (-59)) (t := 7) (by decide +kernel) (by decide) rfl ?_
          exact ih f4 A14 R2 x4 rq23 z25 (.int rq23) hIq13 (fun k n737 n738 => (upf_fr ef4 n738).trans ((upf_fr ef3 n737).trans ((hG k n737 n738)))) (fun k n52 n53 => ((hFq13 k n52 n53)).trans ((upa_fr eA12 n53).trans ((upa_fr eA8 n52).trans ((hF k n52 n53))))) (fun k n1 => (upr_fr eR2 n1).trans ((hH k n1))) (by omega) (by omega) (by omega)
        · skip
          refine pe_iload (j := 5) (by decide +kernel) rfl ?_
          refine pe_iload_n (j := 3) (by decide +kernel) rfl ?_
          have lw27 := zi_lo rq23
          have uw27 := zi_hi rq23
          have lw28 := zi_lo x3
          have uw28 := zi_hi x3
          refine pz_icmp_ge (off := 9) (t := 63) (by decide +kernel) (by decide) rfl rfl rfl (fun h26 => ?_) (fun h26 => ?_)
          · skip
            refine pz_iinc (j := 4) (n := 1) (by decide +kernel) rfl rfl (by decide +kernel) (by omega) (by omega) (fun z29 hz29 => ?_)
            show pmE pg X pg_tyl pg_cl (d + 4) 118 66 [.ref 42, .ref 33, .int x2, .int x3, .int z29, .int rq23] [] (cd f4 A14 R2 wr) _
            refine pe_goto (off := (-59)) (t := 7) (by decide +kernel) (by decide) rfl ?_
            exact ih f4 A14 R2 x2 x3 z29 (.int rq23) hIq13 (fun k n737 n738 => (upf_fr ef4 n738).trans ((upf_fr ef3 n737).trans ((hG k n737 n738)))) (fun k n52 n53 => ((hFq13 k n52 n53)).trans ((upa_fr eA12 n53).trans ((upa_fr eA8 n52).trans ((hF k n52 n53))))) (fun k n1 => (upr_fr eR2 n1).trans ((hH k n1))) (by omega) (by omega) (by omega)
          · skip
            refine pe_iload (j := 4) (by decide +kernel) rfl ?_
            refine pe_istore_n (j := 2) (ls' := [.ref 42, .ref 33, .int x4, .int x3, .int x4, .int rq23]) (by decide +kernel) (Nat.le_of_ble_eq_true rfl) rfl ?_
            refine pe_iload (j := 5) (by decide +kernel) rfl ?_
            refine pe_istore_n (j := 3) (ls' := [.ref 42, .ref 33, .int x4, .int rq23, .int x4, .int rq23]) (by decide +kernel) (Nat.le_of_ble_eq_true rfl) rfl ?_
            refine pz_iinc (j := 4) (n := 1) (by decide +kernel) rfl rfl (by decide +kernel) (by omega) (by omega) (fun z30 hz30 => ?_)
            show pmE pg X pg_tyl pg_cl (d + 4) 118 66 [.ref 42, .ref 33, .int x4, .int rq23, .int z30, .int rq23] [] (cd f4 A14 R2 wr) _
            refine pe_goto (off := (-59)) (t := 7) (by decide +kernel) (by decide) rfl ?_
            exact ih f4 A14 R2 x4 rq23 z30 (.int rq23) hIq13 (fun k n737 n738 => (upf_fr ef4 n738).trans ((upf_fr ef3 n737).trans ((hG k n737 n738)))) (fun k n52 n53 => ((hFq13 k n52 n53)).trans ((upa_fr eA12 n53).trans ((upa_fr eA8 n52).trans ((hF k n52 n53))))) (fun k n1 => (upr_fr eR2 n1).trans ((hH k n1))) (by omega) (by omega) (by omega)
set_option maxRecDepth 100000 in
set_option maxHeartbeats 8000000 in
theorem CM_118 {X : pm_X} {d : Nat} {wr : pm_W} {f : Nat → Int32} {A : Nat → List Int32} {R : Nat → Value} {v : Nat} (hX : XO X) (hI : CI f A R) (hv : VV v) (hR0 : R 0 = .ref v) : pmE pg X pg_tyl pg_cl (d + 4) 118 0 (pm_ent (pm_max pg 118) [.ref 42, .ref 33]) [] (cd f A R wr) (fun q => ∃ (f' : Nat → Int32) (A' : Nat → List Int32) (R' : Nat → Value) (r : Int32), q = (some (.int r), cd f' A' R' wr, 0, 0) ∧ CI f' A' R' ∧ (∀ k : Nat, k ≠ 737 → k ≠ 738 → f' k = f k) ∧ (∀ k : Nat, k ≠ 52 → k ≠ 53 → A' k = A k) ∧ (∀ k : Nat, k ≠ 1 → R' k = R k) ∧ (((0 ≤ r.toInt) ∧ True))) := by
  have bv := VV_b hv
  show pmE pg X pg_tyl pg_cl (d + 4) 118 0 [.ref 42, .ref 33, pm_dead, pm_dead, pm_dead, pm_dead] [] (cd f A R wr) _
  refine pe_iconstv (n := 0) (v := 0) (by decide +kernel) (by decide +kernel) ?_
  refine pe_istore_n (j := 2) (ls' := [.ref 42, .ref 33, .int 0, pm_dead, pm_dead, pm_dead]) (by decide +kernel) (Nat.le_of_ble_eq_true rfl) rfl ?_
  refine pe_iconstv (n := 0) (v := 0) (by decide +kernel) (by decide +kernel) ?_
  refine pe_istore_n (j := 3) (ls' := [.ref 42, .ref 33, .int 0, .int 0, pm_dead, pm_dead]) (by decide +kernel) (Nat.le_of_ble_eq_true rfl) rfl ?_
  refine pe_iconstv (n := 0) (v := 0) (by decide +kernel) (by decide +kernel) ?_
  refine pe_istore (j := 4) (ls' := [.ref 42, .ref 33, .int 0, .int 0, .int 0, pm_dead]) (by decide +kernel) (Nat.le_of_ble_eq_true rfl) rfl ?_
  refine CL_118_7 hX hv (hR0) (fun f1 A2 R3 y4 y5 y6 u7 hIy8 hGf1 hFA2 hHR3 gy4 gy6 => ?_) 10 f A R 0 0 0 (pm_dead) hI (fun k _ _ => rfl) (fun k _ _ => rfl) (fun k _ => rfl) (by decide +kernel) (by decide +kernel) (by decide +kernel)
  refine pe_iload_n (j := 2) (by decide +kernel) rfl ?_
  exact pe_iret (by decide +kernel) rfl rfl ⟨f1, A2, R3, y4, rfl, hIy8, (fun k n737 n738 => (hGf1 k n737 n738)), (fun k n52 n53 => (hFA2 k n52 n53)), (fun k n1 => (hHR3 k n1)), ⟨(by omega), trivial⟩⟩
