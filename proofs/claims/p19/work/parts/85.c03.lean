set_option maxRecDepth 100000 in
set_option maxHeartbeats 8000000 in
theorem CL_104_4 {X : pm_X} {d : Nat} {wr : pm_W} {Q : pm_R → Prop} {f : Nat → Int32} {A : Nat → List Int32} {R : Nat → Value} (hX : XO X) (hI : CI f A R) (k_36_0 : ∀ (y1 : Int32) (y2 : Int32), (0 ≤ y2.toInt ∧ y2.toInt ≤ 37) → pmE pg X pg_tyl pg_cl (d + 2) 104 36 [.ref 33, .int y1, .int y2] [] (cd f A R wr) Q) : ∀ (m : Nat) (x1 : Int32) (x2 : Int32), (0 ≤ x2.toInt ∧ x2.toInt ≤ 37) → 37 - x2.toInt < (m : Int) → pmE pg X pg_tyl pg_cl (d + 2) 104 4 [.ref 33, .int x1, .int x2] [] (cd f A R wr) Q := by
  intro m
  induction m with
  | zero =>
    intro x1 x2 gx2 hm
    exfalso
    have l0 := zi_lo x2
    have u0 := zi_hi x2
    omega
  | succ m ih =>
    intro x1 x2 gx2 hm
    refine pe_iload_n (j := 2) (by decide +kernel) rfl ?_
    refine pe_aload_n (j := 0) (by decide +kernel) rfl ?_
    refine pe_get (j := 32) (ci := 7) (n := 2) (by decide +kernel) (by decide +kernel) cd_o33 rfl ?_
    have hr_f_530 := cf_530 hI
    refine pz_icmp_ge (off := 27) (t := 36) (by decide +kernel) (by decide) rfl rfl rfl (fun h1 => ?_) (fun h1 => ?_)
    · skip
      exact k_36_0 x1 x2 (by omega)
    · skip
      refine pe_iload_n (j := 1) (by decide +kernel) rfl ?_
      refine pe_aload_n (j := 0) (by decide +kernel) rfl ?_
      refine pe_iload_n (j := 2) (by decide +kernel) rfl ?_
      refine pi_V (j := 103) (mj := 83) (by decide +kernel) (cll_V (args := [.int x2]) (n := 1) (by decide +kernel) rfl rfl cd_o33 (by decide +kernel) (Nat.le_of_ble_eq_true rfl) (Nat.le_of_ble_eq_true rfl)) ?_
      show pmE pg X pg_tyl pg_cl (d + 1) 83 0 [.ref 33, .int x2] [] (cd f A R wr) _
      refine pe_aload_n (j := 0) (by decide +kernel) rfl ?_
      refine pe_iload_n (j := 1) (by decide +kernel) rfl ?_
      refine pe_iconstv (n := 3) (v := 3) (by decide +kernel) (by decide +kernel) ?_
      refine pi_V (j := 100) (mj := 84) (by decide +kernel) (cll_V (args := [.int 3, .int x2]) (n := 2) (by decide +kernel) rfl rfl cd_o33 (by decide +kernel) (Nat.le_of_ble_eq_true rfl) (Nat.le_of_ble_eq_true rfl)) ?_
      show pmE pg X pg_tyl pg_cl (d) 84 0 [.ref 33, .int x2, .int 3] [] (cd f A R wr) _
      refine pe_aload_n (j := 0) (by decide +kernel) rfl ?_
      refine pe_get (j := 22) (ci := 7) (n := 4) (by decide +kernel) (by decide +kernel) cd_o33 rfl ?_
      refine pe_iload_n (j := 1) (by decide +kernel) rfl ?_
      refine pe_bipushv (n := 10) (v := 10) (by decide +kernel) (by decide +kernel) ?_
      refine pz_mul (by decide +kernel) rfl kz_10 (by omega) (by omega) (fun z2 hz2 => ?_)
      refine pe_iload_n (j := 2) (by decide +kernel) rfl ?_
      refine pz_add (by decide +kernel) hz2 kz_3 (by omega) (by omega) (fun z3 hz3 => ?_)
      clear hz2
      refine pz_iald (by decide +kernel) cd_a40 (cl_40 hI) hz3 (by omega) (by omega) (fun v4 ev4 => ?_)
      clear hz3
      refine pe_iret (by decide +kernel) rfl rfl ⟨rfl, rfl, ?_⟩
      show pmE pg X pg_tyl pg_cl (d + 1) 83 6 [.ref 33, .int x2] [.int v4] (cd f A R wr) _
      refine pe_iconstv (n := 1) (v := 1) (by decide +kernel) (by decide +kernel) ?_
      have lw6 := zi_lo v4
      have uw6 := zi_hi v4
      refine pz_icmp_ne (off := 7) (t := 14) (by decide +kernel) (by decide) rfl rfl kz_1 (fun h5 => ?_) (fun h5 => ?_)
      · skip
        refine pe_iconstv (n := 0) (v := 0) (by decide +kernel) (by decide +kernel) ?_
        refine pe_iret (by decide +kernel) rfl rfl ⟨rfl, rfl, ?_⟩
        show pmE pg X pg_tyl pg_cl (d + 2) 104 18 [.ref 33, .int x1, .int x2] [.int 0, .int x1] (cd f A R wr) _
        refine pz_if_eq (off := 9) (t := 27) (by decide +kernel) (by decide) rfl kz_0 (fun h7 => ?_) (fun h7 => by omega)
        refine pe_iconstv (n := 0) (v := 0) (by decide +kernel) (by decide +kernel) ?_
        refine pw_or (by decide +kernel) (fun z8 => ?_)
        refine pe_istore_n (j := 1) (ls' := [.ref 33, .int z8, .int x2]) (by decide +kernel) (Nat.le_of_ble_eq_true rfl) rfl ?_
        refine pz_iinc (j := 2) (n := 1) (by decide +kernel) rfl rfl (by decide +kernel) (by omega) (by omega) (fun z9 hz9 => ?_)
        show pmE pg X pg_tyl pg_cl (d + 2) 104 33 [.ref 33, .int z8, .int z9] [] (cd f A R wr) _
        refine pe_goto (off := (-29)) (t := 4) (by decide +kernel) (by decide) rfl ?_
        exact ih z8 z9 (by omega) (by omega)
      · skip
        refine pe_iconstv (n := 1) (v := 1) (by decide +kernel) (by decide +kernel) ?_
        refine pe_goto (off := 4) (t := 15) (by decide +kernel) (by decide) rfl ?_
        refine pe_iret (by decide +kernel) rfl rfl ⟨rfl, rfl, ?_⟩
        show pmE pg X pg_tyl pg_cl (d + 2) 104 18 [.ref 33, .int x1, .int x2] [.int 1, .int x1] (cd f A R wr) _
        refine pz_if_eq (off := 9) (t := 27) (by decide +kernel) (by decide) rfl kz_1 (fun h10 => by omega) (fun h10 => ?_)
        refine pe_iconstv (n := 1) (v := 1) (by decide +kernel) (by decide +kernel) ?_
        refine pe_iload_n (j := 2) (by decide +kernel) rfl ?_
        refine pw_shl (by decide +kernel) (fun z11 => ?_)
        refine pe_goto (off := 4) (t := 28) (by decide +kernel) (by decide) rfl ?_
        refine pw_or (by decide +kernel) (fun z12 => ?_)
        refine pe_istore_n (j := 1) (ls' := [.ref 33, .int z12, .int x2]) (by decide +kernel) (Nat.le_of_ble_eq_true rfl) rfl ?_
        refine pz_iinc (j := 2) (n := 1) (by decide +kernel) rfl rfl (by decide +kernel) (by omega) (by omega) (fun z13 hz13 => ?_)
        show pmE pg X pg_tyl pg_cl (d + 2) 104 33 [.ref 33, .int z12, .int z13] [] (cd f A R wr) _
        refine pe_goto (off := (-29)) (t := 4) (by decide +kernel) (by decide) rfl ?_
        exact ih z12 z13 (by omega) (by omega)
set_option maxRecDepth 100000 in
set_option maxHeartbeats 8000000 in
theorem CM_104 {X : pm_X} {d : Nat} {wr : pm_W} {f : Nat → Int32} {A : Nat → List Int32} {R : Nat → Value} (hX : XO X) (hI : CI f A R) : pmE pg X pg_tyl pg_cl (d + 2) 104 0 (pm_ent (pm_max pg 104) [.ref 33]) [] (cd f A R wr) (fun q => ∃ (r : Int32), q = (some (.int r), cd f A R wr, 0, 0) ∧ ((True ∧ True))) := by
  show pmE pg X pg_tyl pg_cl (d + 2) 104 0 [.ref 33, pm_dead, pm_dead] [] (cd f A R wr) _
  refine pe_iconstv (n := 0) (v := 0) (by decide +kernel) (by decide +kernel) ?_
  refine pe_istore_n (j := 1) (ls' := [.ref 33, .int 0, pm_dead]) (by decide +kernel) (Nat.le_of_ble_eq_true rfl) rfl ?_
  refine pe_iconstv (n := 0) (v := 0) (by decide +kernel) (by decide +kernel) ?_
  refine pe_istore_n (j := 2) (ls' := [.ref 33, .int 0, .int 0]) (by decide +kernel) (Nat.le_of_ble_eq_true rfl) rfl ?_
  refine CL_104_4 hX hI (fun y1 y2 gy2 => ?_) 38 0 0 (by decide +kernel) (by decide +kernel)
  refine pe_iload_n (j := 1) (by decide +kernel) rfl ?_
  exact pe_iret (by decide +kernel) rfl rfl ⟨y1, rfl, ⟨trivial, trivial⟩⟩
set_option maxRecDepth 100000 in
set_option maxHeartbeats 8000000 in
theorem CL_123_4 {X : pm_X} {d : Nat} {wr : pm_W} {Q : pm_R → Prop} {f : Nat → Int32} {A : Nat → List Int32} {R : Nat → Value} {x1 : Int32} (hX : XO X) (hI : CI f A R) (k_37_0 : ∀ (y2 : Int32) (y3 : Int32), (0 ≤ y3.toInt ∧ y3.toInt ≤ 37) → pmE pg X pg_tyl pg_cl (d + 3) 123 37 [.ref 33, .int x1, .int y2, .int y3] [] (cd f A R wr) Q) : ∀ (m : Nat) (x2 : Int32) (x3 : Int32), (0 ≤ x3.toInt ∧ x3.toInt ≤ 37) → 37 - x3.toInt < (m : Int) → pmE pg X pg_tyl pg_cl (d + 3) 123 4 [.ref 33, .int x1, .int x2, .int x3] [] (cd f A R wr) Q := by
  intro m
  induction m with
  | zero =>
    intro x2 x3 gx3 hm
    exfalso
    have l0 := zi_lo x3
    have u0 := zi_hi x3
    omega
  | succ m ih =>
    intro x2 x3 gx3 hm
    refine pe_iload_n (j := 3) (by decide +kernel) rfl ?_
    refine pe_aload_n (j := 0) (by decide +kernel) rfl ?_
    refine pe_get (j := 32) (ci := 7) (n := 2) (by decide +kernel) (by decide +kernel) cd_o33 rfl ?_
    have hr_f_530 := cf_530 hI
    refine pz_icmp_ge (off := 28) (t := 37) (by decide +kernel) (by decide) rfl rfl rfl (fun h1 => ?_) (fun h1 => ?_)
    · skip
      exact k_37_0 x2 x3 (by omega)
    · skip
      refine pe_iload_n (j := 2) (by decide +kernel) rfl ?_
      refine pe_aload_n (j := 0) (by decide +kernel) rfl ?_
      refine pe_iload_n (j := 3) (by decide +kernel) rfl ?_
      refine pe_iload_n (j := 1) (by decide +kernel) rfl ?_
      refine pz_callV (j := 118) (mj := 87) (by decide +kernel) (cll_V (args := [.int x1, .int x3]) (n := 2) (by decide +kernel) rfl rfl cd_o33 (by decide +kernel) (Nat.le_of_ble_eq_true rfl) (Nat.le_of_ble_eq_true rfl)) (CM_87 hX hI (by omega)) (fun q2a q2b q2c q2d hqq2 => ?_)
      obtain ⟨rq2, eq2, kq2⟩ := hqq2
      cases eq2
      refine ⟨rfl, rfl, ?_⟩
      rcases kq2 with kq2 | kq2
      · skip
        obtain ⟨erq2, kq2⟩ := kq2
        subst erq2
        show pmE pg X pg_tyl pg_cl (d + 3) 123 19 [.ref 33, .int x1, .int x2, .int x3] [.int 0, .int x2] (cd f A R wr) _
        refine pz_if_eq (off := 9) (t := 28) (by decide +kernel) (by decide) rfl kz_0 (fun h3 => ?_) (fun h3 => by omega)
        refine pe_iconstv (n := 0) (v := 0) (by decide +kernel) (by decide +kernel) ?_
        refine pw_or (by decide +kernel) (fun z4 => ?_)
        refine pe_istore_n (j := 2) (ls' := [.ref 33, .int x1, .int z4, .int x3]) (by decide +kernel) (Nat.le_of_ble_eq_true rfl) rfl ?_
        refine pz_iinc (j := 3) (n := 1) (by decide +kernel) rfl rfl (by decide +kernel) (by omega) (by omega) (fun z5 hz5 => ?_)
        show pmE pg X pg_tyl pg_cl (d + 3) 123 34 [.ref 33, .int x1, .int z4, .int z5] [] (cd f A R wr) _
        refine pe_goto (off := (-30)) (t := 4) (by decide +kernel) (by decide) rfl ?_
        exact ih z4 z5 (by omega) (by omega)
      · skip
        obtain ⟨erq2, kq2⟩ := kq2
        subst erq2
        show pmE pg X pg_tyl pg_cl (d + 3) 123 19 [.ref 33, .int x1, .int x2, .int x3] [.int 1, .int x2] (cd f A R wr) _
        refine pz_if_eq (off := 9) (t := 28) (by decide +kernel) (by decide) rfl kz_1 (fun h6 => by omega) (fun h6 => ?_)
        refine pe_iconstv (n := 1) (v := 1) (by decide +kernel) (by decide +kernel) ?_
        refine pe_iload_n (j := 3) (by decide +kernel) rfl ?_
        refine pw_shl (by decide +kernel) (fun z7 => ?_)
        refine pe_goto (off := 4) (t := 29) (by decide +kernel) (by decide) rfl ?_
        refine pw_or (by decide +kernel) (fun z8 => ?_)
        refine pe_istore_n (j := 2) (ls' := [.ref 33, .int x1, .int z8, .int x3]) (by decide +kernel) (Nat.le_of_ble_eq_true rfl) rfl ?_
        refine pz_iinc (j := 3) (n := 1) (by decide +kernel) rfl rfl (by decide +kernel) (by omega) (by omega) (fun z9 hz9 => ?_)
        show pmE pg X pg_tyl pg_cl (d + 3) 123 34 [.ref 33, .int x1, .int z8, .int z9] [] (cd f A R wr) _
        refine pe_goto (off := (-30)) (t := 4) (by decide +kernel) (by decide) rfl ?_
        exact ih z8 z9 (by omega) (by omega)
set_option maxRecDepth 100000 in
set_option maxHeartbeats 8000000 in
theorem CM_123 {X : pm_X} {d : Nat} {wr : pm_W} {f : Nat → Int32} {A : Nat → List Int32} {R : Nat → Value} {x1 : Int32} (hX : XO X) (hI : CI f A R) : pmE pg X pg_tyl pg_cl (d + 3) 123 0 (pm_ent (pm_max pg 123) [.ref 33, .int x1]) [] (cd f A R wr) (fun q => ∃ (r : Int32), q = (some (.int r), cd f A R wr, 0, 0) ∧ ((True ∧ True))) := by
  show pmE pg X pg_tyl pg_cl (d + 3) 123 0 [.ref 33, .int x1, pm_dead, pm_dead] [] (cd f A R wr) _
  refine pe_iconstv (n := 0) (v := 0) (by decide +kernel) (by decide +kernel) ?_
  refine pe_istore_n (j := 2) (ls' := [.ref 33, .int x1, .int 0, pm_dead]) (by decide +kernel) (Nat.le_of_ble_eq_true rfl) rfl ?_
  refine pe_iconstv (n := 0) (v := 0) (by decide +kernel) (by decide +kernel) ?_
  refine pe_istore_n (j := 3) (ls' := [.ref 33, .int x1, .int 0, .int 0]) (by decide +kernel) (Nat.le_of_ble_eq_true rfl) rfl ?_
  refine CL_123_4 hX hI (fun y1 y2 gy2 => ?_) 38 0 0 (by decide +kernel) (by decide +kernel)
  refine pe_iload_n (j := 2) (by decide +kernel) rfl ?_
  exact pe_iret (by decide +kernel) rfl rfl ⟨y1, rfl, ⟨trivial, trivial⟩⟩
set_option maxRecDepth 100000 in
set_option maxHeartbeats 8000000 in
theorem CL_125_4 {X : pm_X} {d : Nat} {wr : pm_W} {Q : pm_R → Prop} {f : Nat → Int32} {A : Nat → List Int32} {R : Nat → Value} {x1 : Int32} (hX : XO X) (hI : CI f A R) (k_46_0 : ∀ (y2 : Int32) (y3 : Int32), (0 ≤ y3.toInt ∧ y3.toInt ≤ 37) → pmE pg X pg_tyl pg_cl (d + 2) 125 46 [.ref 33, .int x1, .int y2, .int y3] [] (cd f A R wr) Q) : ∀ (m : Nat) (x2 : Int32) (x3 : Int32), (0 ≤ x3.toInt ∧ x3.toInt ≤ 37) → 37 - x3.toInt < (m : Int) → pmE pg X pg_tyl pg_cl (d + 2) 125 4 [.ref 33, .int x1, .int x2, .int x3] [] (cd f A R wr) Q := by
  intro m
  induction m with
  | zero =>
    intro x2 x3 gx3 hm
    exfalso
    have l0 := zi_lo x3
    have u0 := zi_hi x3
    omega
  | succ m ih =>
    intro x2 x3 gx3 hm
    refine pe_iload_n (j := 3) (by decide +kernel) rfl ?_
    refine pe_aload_n (j := 0) (by decide +kernel) rfl ?_
    refine pe_get (j := 32) (ci := 7) (n := 2) (by decide +kernel) (by decide +kernel) cd_o33 rfl ?_
    have hr_f_530 := cf_530 hI
    refine pz_icmp_ge (off := 37) (t := 46) (by decide +kernel) (by decide) rfl rfl rfl (fun h1 => ?_) (fun h1 => ?_)
    · skip
      exact k_46_0 x2 x3 (by omega)
    · skip
      refine pe_iload_n (j := 2) (by decide +kernel) rfl ?_
      refine pe_aload_n (j := 0) (by decide +kernel) rfl ?_
      refine pe_iload_n (j := 3) (by decide +kernel) rfl ?_
      refine pi_V (j := 103) (mj := 83) (by decide +kernel) (cll_V (args := [.int x3]) (n := 1) (by decide +kernel) rfl rfl cd_o33 (by decide +kernel) (Nat.le_of_ble_eq_true rfl) (Nat.le_of_ble_eq_true rfl)) ?_
      show pmE pg X pg_tyl pg_cl (d + 1) 83 0 [.ref 33, .int x3] [] (cd f A R wr) _
      refine pe_aload_n (j := 0) (by decide +kernel) rfl ?_
      refine pe_iload_n (j := 1) (by decide +kernel) rfl ?_
      refine pe_iconstv (n := 3) (v := 3) (by decide +kernel) (by decide +kernel) ?_
      refine pi_V (j := 100) (mj := 84) (by decide +kernel) (cll_V (args := [.int 3, .int x3]) (n := 2) (by decide +kernel) rfl rfl cd_o33 (by decide +kernel) (Nat.le_of_ble_eq_true rfl) (Nat.le_of_ble_eq_true rfl)) ?_
      show pmE pg X pg_tyl pg_cl (d) 84 0 [.ref 33, .int x3, .int 3] [] (cd f A R wr) _
      refine pe_aload_n (j := 0) (by decide +kernel) rfl ?_
      refine pe_get (j := 22) (ci := 7) (n := 4) (by decide +kernel) (by decide +kernel) cd_o33 rfl ?_
      refine pe_iload_n (j := 1) (by decide +kernel) rfl ?_
      refine pe_bipushv (n := 10) (v := 10) (by decide +kernel) (by decide +kernel) ?_
      refine pz_mul (by decide +kernel) rfl kz_10 (by omega) (by omega) (fun z2 hz2 => ?_)
      refine pe_iload_n (j := 2) (by decide +kernel) rfl ?_
      refine pz_add (by decide +kernel) hz2 kz_3 (by omega) (by omega) (fun z3 hz3 => ?_)
      clear hz2
      refine pz_iald (by decide +kernel) cd_a40 (cl_40 hI) hz3 (by omega) (by omega) (fun v4 ev4 => ?_)
      clear hz3
      refine pe_iret (by decide +kernel) rfl rfl ⟨rfl, rfl, ?_⟩
      show pmE pg X pg_tyl pg_cl (d + 1) 83 6 [.ref 33, .int x3] [.int v4] (cd f A R wr) _
      refine pe_iconstv (n := 1) (v := 1) (by decide +kernel) (by decide +kernel) ?_
      have lw6 := zi_lo v4
      have uw6 := zi_hi v4
      refine pz_icmp_ne (off := 7) (t := 14) (by decide +kernel) (by decide) rfl rfl kz_1 (fun h5 => ?_) (fun h5 => ?_)
      · skip
        refine pe_iconstv (n := 0) (v := 0) (by decide +kernel) (by decide +kernel) ?_
        refine pe_iret (by decide +kernel) rfl rfl ⟨rfl, rfl, ?_⟩
        show pmE pg X pg_tyl pg_cl (d + 2) 125 18 [.ref 33, .int x1, .int x2, .int x3] [.int 0, .int x2] (cd f A R wr) _
        refine pz_if_eq (off := 19) (t := 37) (by decide +kernel) (by decide) rfl kz_0 (fun h7 => ?_) (fun h7 => by omega)
        refine pe_iconstv (n := 0) (v := 0) (by decide +kernel) (by decide +kernel) ?_
        refine pw_or (by decide +kernel) (fun z8 => ?_)
        refine pe_istore_n (j := 2) (ls' := [.ref 33, .int x1, .int z8, .int x3]) (by decide +kernel) (Nat.le_of_ble_eq_true rfl) rfl ?_
        refine pz_iinc (j := 3) (n := 1) (by decide +kernel) rfl rfl (by decide +kernel) (by omega) (by omega) (fun z9 hz9 => ?_)
        show pmE pg X pg_tyl pg_cl (d + 2) 125 43 [.ref 33, .int x1, .int z8, .int z9] [] (cd f A R wr) _
        refine pe_goto (off := (-39)) (t := 4) (by decide +kernel) (by decide) rfl ?_
        exact ih z8 z9 (by omega) (by omega)
      · skip
        refine pe_iconstv (n := 1) (v := 1) (by decide +kernel) (by decide +kernel) ?_
        refine pe_goto (off := 4) (t := 15) (by decide +kernel) (by decide) rfl ?_
        refine pe_iret (by decide +kernel) rfl rfl ⟨rfl, rfl, ?_⟩
        show pmE pg X pg_tyl pg_cl (d + 2) 125 18 [.ref 33, .int x1, .int x2, .int x3] [.int 1, .int x2] (cd f A R wr) _
        refine pz_if_eq (off := 19) (t := 37) (by decide +kernel) (by decide) rfl kz_1 (fun h10 => by omega) (fun h10 => ?_)
        refine pe_aload_n (j := 0) (by decide +kernel) rfl ?_
        refine pe_iload_n (j := 3) (by decide +kernel) rfl ?_
        refine pe_iconstv (n := 2) (v := 2) (by decide +kernel) (by decide +kernel) ?_
        refine pi_V (j := 100) (mj := 84) (by decide +kernel) (cll_V (args := [.int 2, .int x3]) (n := 2) (by decide +kernel) rfl rfl cd_o33 (by decide +kernel) (Nat.le_of_ble_eq_true rfl) (Nat.le_of_ble_eq_true rfl)) ?_
        show pmE pg X pg_tyl pg_cl (d + 1) 84 0 [.ref 33, .int x3, .int 2] [] (cd f A R wr) _
        refine pe_aload_n (j := 0) (by decide +kernel) rfl ?_
        refine pe_get (j := 22) (ci := 7) (n := 4) (by decide +kernel) (by decide +kernel) cd_o33 rfl ?_
        refine pe_iload_n (j := 1) (by decide +kernel) rfl ?_
        refine pe_bipushv (n := 10) (v := 10) (by decide +kernel) (by decide +kernel) ?_
        refine pz_mul (by decide +kernel) rfl kz_10 (by omega) (by omega) (fun z11 hz11 => ?_)
        refine pe_iload_n (j := 2) (by decide +kernel) rfl ?_
        refine pz_add (by decide +kernel) hz11 kz_2 (by omega) (by omega) (fun z12 hz12 => ?_)
        clear hz11
        refine pz_iald (by decide +kernel) cd_a40 (cl_40 hI) hz12 (by omega) (by omega) (fun v13 ev13 => ?_)
        clear hz12
        refine pe_iret (by decide +kernel) rfl rfl ⟨rfl, rfl, ?_⟩
        show pmE pg X pg_tyl pg_cl (d + 2) 125 27 [.ref 33, .int x1, .int x2, .int x3] [.int v13, .int x2] (cd f A R wr) _
        refine pe_iload_n (j := 1) (by decide +kernel) rfl ?_
        have lw15 := zi_lo v13
        have uw15 := zi_hi v13
        have lw16 := zi_lo x1
        have uw16 := zi_hi x1
        refine pz_icmp_ge (off := 9) (t := 37) (by decide +kernel) (by decide) rfl rfl rfl (fun h14 => ?_) (fun h14 => ?_)
        · skip
          refine pe_iconstv (n := 0) (v := 0) (by decide +kernel) (by decide +kernel) ?_
          refine pw_or (by decide +kernel) (fun z17 => ?_)
          refine pe_istore_n (j := 2) (ls' := [.ref 33, .int x1, .int z17, .int x3]) (by decide +kernel) (Nat.le_of_ble_eq_true rfl) rfl ?_
          refine pz_iinc (j := 3) (n := 1) (by decide +kernel) rfl rfl (by decide +kernel) (by omega) (by omega) (fun z18 hz18 => ?_)
          show pmE pg X pg_tyl pg_cl (d + 2) 125 43 [.ref 33, .int x1, .int z17, .int z18] [] (cd f A R wr) _
          refine pe_goto (off := (-39)) (t := 4) (by decide +kernel) (by decide) rfl ?_
          exact ih z17 z18 (by omega) (by omega)
        · skip
          refine pe_iconstv (n := 1) (v := 1) (by decide +kernel) (by decide +kernel) ?_
          refine pe_iload_n (j := 3) (by decide +kernel) rfl ?_
          refine pw_shl (by decide +kernel) (fun z19 => ?_)
          refine pe_goto (off := 4) (t := 38) (by decide +kernel) (by decide) rfl ?_
          refine pw_or (by decide +kernel) (fun z20 => ?_)
          refine pe_istore_n (j := 2) (ls' := [.ref 33, .int x1, .int z20, .int x3]) (by decide +kernel) (Nat.le_of_ble_eq_true rfl) rfl ?_
          refine pz_iinc (j := 3) (n := 1) (by decide +kernel) rfl rfl (by decide +kernel) (by omega) (by omega) (fun z21 hz21 => ?_)
          show pmE pg X pg_tyl pg_cl (d + 2) 125 43 [.ref 33, .int x1, .int z20, .int z21] [] (cd f A R wr) _
          refine pe_goto (off := (-39)) (t := 4) (by decide +kernel) (by decide) rfl ?_
          exact ih z20 z21 (by omega) (by omega)
set_option maxRecDepth 100000 in
set_option maxHeartbeats 8000000 in
theorem CM_125 {X : pm_X} {d : Nat} {wr : pm_W} {f : Nat → Int32} {A : Nat → List Int32} {R : Nat → Value} {x1 : Int32} (hX : XO X) (hI : CI f A R) : pmE pg X pg_tyl pg_cl (d + 2) 125 0 (pm_ent (pm_max pg 125) [.ref 33, .int x1]) [] (cd f A R wr) (fun q => ∃ (r : Int32), q = (some (.int r), cd f A R wr, 0, 0) ∧ ((True ∧ True))) := by
  show pmE pg X pg_tyl pg_cl (d + 2) 125 0 [.ref 33, .int x1, pm_dead, pm_dead] [] (cd f A R wr) _
  refine pe_iconstv (n := 0) (v := 0) (by decide +kernel) (by decide +kernel) ?_
  refine pe_istore_n (j := 2) (ls' := [.ref 33, .int x1, .int 0, pm_dead]) (by decide +kernel) (Nat.le_of_ble_eq_true rfl) rfl ?_
  refine pe_iconstv (n := 0) (v := 0) (by decide +kernel) (by decide +kernel) ?_
  refine pe_istore_n (j := 3) (ls' := [.ref 33, .int x1, .int 0, .int 0]) (by decide +kernel) (Nat.le_of_ble_eq_true rfl) rfl ?_
  refine CL_125_4 hX hI (fun y1 y2 gy2 => ?_) 38 0 0 (by decide +kernel) (by decide +kernel)
  refine pe_iload_n (j := 2) (by decide +kernel) rfl ?_
  exact pe_iret (by decide +kernel) rfl rfl ⟨y1, rfl, ⟨trivial, trivial⟩⟩
set_option maxRecDepth 100000 in
set_option maxHeartbeats 8000000 in
theorem CL_122_4 {X : pm_X} {d : Nat} {wr : pm_W} {Q : pm_R → Prop} {f : Nat → Int32} {A : Nat → List Int32} {R : Nat → Value} {x1 : Int32} (hX : XO X) (hI : CI f A R) (k_39_0 : ∀ (y2 : Int32) (y3 : Int32), (0 ≤ y3.toInt ∧ y3.toInt ≤ 37) → pmE pg X pg_tyl pg_cl (d + 3) 122 39 [.ref 33, .int x1, .int y2, .int y3] [] (cd f A R wr) Q) : ∀ (m : Nat) (x2 : Int32) (x3 : Int32), (0 ≤ x3.toInt ∧ x3.toInt ≤ 37) → 37 - x3.toInt < (m : Int) → pmE pg X pg_tyl pg_cl (d + 3) 122 4 [.ref 33, .int x1, .int x2, .int x3] [] (cd f A R wr) Q := by
  intro m
  induction m with
  | zero =>
    intro x2 x3 gx3 hm
    exfalso
    have l0 := zi_lo x3
    have u0 := zi_hi x3
    omega
  | succ m ih =>
    intro x2 x3 gx3 hm
    refine pe_iload_n (j := 3) (by decide +kernel) rfl ?_
    refine pe_aload_n (j := 0) (by decide +kernel) rfl ?_
    refine pe_get (j := 32) (ci := 7) (n := 2) (by decide +kernel) (by decide +kernel) cd_o33 rfl ?_
    have hr_f_530 := cf_530 hI
    refine pz_icmp_ge (off := 30) (t := 39) (by decide +kernel) (by decide) rfl rfl rfl (fun h1 => ?_) (fun h1 => ?_)
    · skip
      exact k_39_0 x2 x3 (by omega)
    · skip
      refine pe_iload_n (j := 2) (by decide +kernel) rfl ?_
      refine pe_aload_n (j := 0) (by decide +kernel) rfl ?_
      refine pe_iload_n (j := 3) (by decide +kernel) rfl ?_
      refine pe_iload_n (j := 1) (by decide +kernel) rfl ?_
      refine pz_callV (j := 118) (mj := 87) (by decide +kernel) (cll_V (args := [.int x1, .int x3]) (n := 2) (by decide +kernel) rfl rfl cd_o33 (by decide +kernel) (Nat.le_of_ble_eq_true rfl) (Nat.le_of_ble_eq_true rfl)) (CM_87 hX hI (by omega)) (fun q2a q2b q2c q2d hqq2 => ?_)
      obtain ⟨rq2, eq2, kq2⟩ := hqq2
      cases eq2
      refine ⟨rfl, rfl, ?_⟩
      rcases kq2 with kq2 | kq2
      · skip
        obtain ⟨erq2, kq2⟩ := kq2
        subst erq2
        show pmE pg X pg_tyl pg_cl (d + 3) 122 19 [.ref 33, .int x1, .int x2, .int x3] [.int 0, .int x2] (cd f A R wr) _
        refine pz_if_eq (off := 11) (t := 30) (by decide +kernel) (by decide) rfl kz_0 (fun h3 => ?_) (fun h3 => by omega)
        refine pe_iconstv (n := 0) (v := 0) (by decide +kernel) (by decide +kernel) ?_
        refine pw_or (by decide +kernel) (fun z4 => ?_)
        refine pe_istore_n (j := 2) (ls' := [.ref 33, .int x1, .int z4, .int x3]) (by decide +kernel) (Nat.le_of_ble_eq_true rfl) rfl ?_
        refine pz_iinc (j := 3) (n := 1) (by decide +kernel) rfl rfl (by decide +kernel) (by omega) (by omega) (fun z5 hz5 => ?_)
        show pmE pg X pg_tyl pg_cl (d + 3) 122 36 [.ref 33, .int x1, .int z4, .int z5] [] (cd f A R wr) _
        refine pe_goto (off := (-32)) (t := 4) (by decide +kernel) (by decide) rfl ?_
        exact ih z4 z5 (by omega) (by omega)
      · skip
        obtain ⟨erq2, kq2⟩ := kq2
        subst erq2
        show pmE pg X pg_tyl pg_cl (d + 3) 122 19 [.ref 33, .int x1, .int x2, .int x3] [.int 1, .int x2] (cd f A R wr) _
        refine pz_if_eq (off := 11) (t := 30) (by decide +kernel) (by decide) rfl kz_1 (fun h6 => by omega) (fun h6 => ?_)
        refine pe_aload_n (j := 0) (by decide +kernel) rfl ?_
        refine pe_iload_n (j := 3) (by decide +kernel) rfl ?_
        refine pz_callV (j := 106) (mj := 88) (by decide +kernel) (cll_V (args := [.int x3]) (n := 1) (by decide +kernel) rfl rfl cd_o33 (by decide +kernel) (Nat.le_of_ble_eq_true rfl) (Nat.le_of_ble_eq_true rfl)) (CM_88 hX hI (by omega)) (fun q7a q7b q7c q7d hqq7 => ?_)
        obtain ⟨rq7, eq7, kq7⟩ := hqq7
        cases eq7
        refine ⟨rfl, rfl, ?_⟩
        show pmE pg X pg_tyl pg_cl (d + 3) 122 27 [.ref 33, .int x1, .int x2, .int x3] [.int rq7, .int x2] (cd f A R wr) _
        refine pe_goto (off := 4) (t := 31) (by decide +kernel) (by decide) rfl ?_
        refine pw_or (by decide +kernel) (fun z8 => ?_)
        refine pe_istore_n (j := 2) (ls' := [.ref 33, .int x1, .int z8, .int x3]) (by decide +kernel) (Nat.le_of_ble_eq_true rfl) rfl ?_
        refine pz_iinc (j := 3) (n := 1) (by decide +kernel) rfl rfl (by decide +kernel) (by omega) (by omega) (fun z9 hz9 => ?_)
        show pmE pg X pg_tyl pg_cl (d + 3) 122 36 [.ref 33, .int x1, .int z8, .int z9] [] (cd f A R wr) _
        refine pe_goto (off := (-32)) (t := 4) (by decide +kernel) (by decide) rfl ?_
        exact ih z8 z9 (by omega) (by omega)
set_option maxRecDepth 100000 in
set_option maxHeartbeats 8000000 in
theorem CM_122 {X : pm_X} {d : Nat} {wr : pm_W} {f : Nat → Int32} {A : Nat → List Int32} {R : Nat → Value} {x1 : Int32} (hX : XO X) (hI : CI f A R) : pmE pg X pg_tyl pg_cl (d + 3) 122 0 (pm_ent (pm_max pg 122) [.ref 33, .int x1]) [] (cd f A R wr) (fun q => ∃ (r : Int32), q = (some (.int r), cd f A R wr, 0, 0) ∧ ((True ∧ True))) := by
  show pmE pg X pg_tyl pg_cl (d + 3) 122 0 [.ref 33, .int x1, pm_dead, pm_dead] [] (cd f A R wr) _
  refine pe_iconstv (n := 0) (v := 0) (by decide +kernel) (by decide +kernel) ?_
  refine pe_istore_n (j := 2) (ls' := [.ref 33, .int x1, .int 0, pm_dead]) (by decide +kernel) (Nat.le_of_ble_eq_true rfl) rfl ?_
  refine pe_iconstv (n := 0) (v := 0) (by decide +kernel) (by decide +kernel) ?_
  refine pe_istore_n (j := 3) (ls' := [.ref 33, .int x1, .int 0, .int 0]) (by decide +kernel) (Nat.le_of_ble_eq_true rfl) rfl ?_
  refine CL_122_4 hX hI (fun y1 y2 gy2 => ?_) 38 0 0 (by decide +kernel) (by decide +kernel)
  refine pe_iload_n (j := 2) (by decide +kernel) rfl ?_
  refine pe_iconstv (n := 1) (v := 1) (by decide +kernel) (by decide +kernel) ?_
  refine pe_iload_n (j := 1) (by decide +kernel) rfl ?_
  refine pw_shl (by decide +kernel) (fun z3 => ?_)
  refine pe_iconstv (n := (-1)) (v := (-1)) (by decide +kernel) (by decide +kernel) ?_
  refine pw_xor (by decide +kernel) (fun z4 => ?_)
  refine pw_and (by decide +kernel) (fun z5 => ?_)
  exact pe_iret (by decide +kernel) rfl rfl ⟨z5, rfl, ⟨trivial, trivial⟩⟩
set_option maxRecDepth 100000 in
set_option maxHeartbeats 8000000 in
theorem CL_144_5 {X : pm_X} {d : Nat} {wr : pm_W} {Q : pm_R → Prop} {f : Nat → Int32} {A : Nat → List Int32} {R : Nat → Value} {x1 x2 : Int32} {v : Nat} (hX : XO X) (hI : CI f A R) (hv : VV v) (hR0 : R 0 = .ref v) (gx1 : (0 ≤ x1.toInt ∧ x1.toInt ≤ 8)) (k_51_0 : ∀ (y3 : Int32) (y4 : Int32), (0 ≤ y4.toInt ∧ y4.toInt ≤ 9) → pmE pg X pg_tyl pg_cl (d + 2) 144 51 [.ref 33, .int x1, .int x2, .int y3, .int y4] [] (cd f A R wr) Q) : ∀ (m : Nat) (x3 : Int32) (x4 : Int32), (0 ≤ x4.toInt ∧ x4.toInt ≤ 9) → 9 - x4.toInt < (m : Int) → pmE pg X pg_tyl pg_cl (d + 2) 144 5 [.ref 33, .int x1, .int x2, .int x3, .int x4] [] (cd f A R wr) Q := by
  have bv := VV_b hv
  intro m
  induction m with
  | zero =>
    intro x3 x4 gx4 hm
    exfalso
    have l0 := zi_lo x4
    have u0 := zi_hi x4
    omega
  | succ m ih =>
    intro x3 x4 gx4 hm
    refine pe_iload (j := 4) (by decide +kernel) rfl ?_
    refine pe_aload_n (j := 0) (by decide +kernel) rfl ?_
    refine pe_get (j := 12) (ci := 7) (n := 0) (by decide +kernel) (by decide +kernel) cd_o33 rfl ?_
    refine pe_topV (v := .ref v) (hR0) ?_
    refine pe_get (j := 121) (ci := 9) (n := 0) (by decide +kernel) (by decide +kernel) (cv_o hv) rfl ?_
    have hr_f_16v := cv_people hv hI
    refine pz_icmp_ge (off := 37) (t := 51) (by decide +kernel) (by decide) rfl rfl rfl (fun h1 => ?_) (fun h1 => ?_)
    · skip
      exact k_51_0 x3 x4 (by omega)
    · skip
      refine pe_iload_n (j := 3) (by decide +kernel) rfl ?_
      refine pe_iload (j := 4) (by decide +kernel) rfl ?_
      refine pe_iload_n (j := 1) (by decide +kernel) rfl ?_
      refine pz_icmp_eq (off := 21) (t := 42) (by decide +kernel) (by decide) rfl rfl rfl (fun h2 => ?_) (fun h2 => ?_)
      · skip
        refine pe_iconstv (n := 0) (v := 0) (by decide +kernel) (by decide +kernel) ?_
        refine pw_or (by decide +kernel) (fun z3 => ?_)
        refine pe_istore_n (j := 3) (ls' := [.ref 33, .int x1, .int x2, .int z3, .int x4]) (by decide +kernel) (Nat.le_of_ble_eq_true rfl) rfl ?_
        refine pz_iinc (j := 4) (n := 1) (by decide +kernel) rfl rfl (by decide +kernel) (by omega) (by omega) (fun z4 hz4 => ?_)
        show pmE pg X pg_tyl pg_cl (d + 2) 144 48 [.ref 33, .int x1, .int x2, .int z3, .int z4] [] (cd f A R wr) _
        refine pe_goto (off := (-43)) (t := 5) (by decide +kernel) (by decide) rfl ?_
        exact ih z3 z4 (by omega) (by omega)
      · skip
        refine pe_aload_n (j := 0) (by decide +kernel) rfl ?_
        refine pe_iload_n (j := 1) (by decide +kernel) rfl ?_
        refine pe_iload (j := 4) (by decide +kernel) rfl ?_
        refine pz_callV (j := 89) (mj := 77) (by decide +kernel) (cll_V (args := [.int x4, .int x1]) (n := 2) (by decide +kernel) rfl rfl cd_o33 (by decide +kernel) (Nat.le_of_ble_eq_true rfl) (Nat.le_of_ble_eq_true rfl)) (CM_77 hX hI hv (hR0) (by omega) (by omega)) (fun q5a q5b q5c q5d hqq5 => ?_)
        obtain ⟨rq5, eq5, kq5⟩ := hqq5
        cases eq5
        refine ⟨rfl, rfl, ?_⟩
        show pmE pg X pg_tyl pg_cl (d + 2) 144 31 [.ref 33, .int x1, .int x2, .int x3, .int x4] [.int rq5, .int x3] (cd f A R wr) _
        refine pe_iload_n (j := 2) (by decide +kernel) rfl ?_
        have lw7 := zi_lo rq5
        have uw7 := zi_hi rq5
        have lw8 := zi_lo x2
        have uw8 := zi_hi x2
        refine pz_icmp_lt (off := 10) (t := 42) (by decide +kernel) (by decide) rfl rfl rfl (fun h6 => ?_) (fun h6 => ?_)
        · skip
          refine pe_iconstv (n := 0) (v := 0) (by decide +kernel) (by decide +kernel) ?_
          refine pw_or (by decide +kernel) (fun z9 => ?_)
          refine pe_istore_n (j := 3) (ls' := [.ref 33, .int x1, .int x2, .int z9, .int x4]) (by decide +kernel) (Nat.le_of_ble_eq_true rfl) rfl ?_
          refine pz_iinc (j := 4) (n := 1) (by decide +kernel) rfl rfl (by decide +kernel) (by omega) (by omega) (fun z10 hz10 => ?_)
          show pmE pg X pg_tyl pg_cl (d + 2) 144 48 [.ref 33, .int x1, .int x2, .int z9, .int z10] [] (cd f A R wr) _
          refine pe_goto (off := (-43)) (t := 5) (by decide +kernel) (by decide) rfl ?_
          exact ih z9 z10 (by omega) (by omega)
        · skip
          refine pe_iconstv (n := 1) (v := 1) (by decide +kernel) (by decide +kernel) ?_
          refine pe_iload (j := 4) (by decide +kernel) rfl ?_
          refine pz_shl1 (by decide +kernel) rfl (by omega) (by omega) (fun z11 hz11 => ?_)
          refine pe_goto (off := 4) (t := 43) (by decide +kernel) (by decide) rfl ?_
          refine pw_or (by decide +kernel) (fun z12 => ?_)
          refine pe_istore_n (j := 3) (ls' := [.ref 33, .int x1, .int x2, .int z12, .int x4]) (by decide +kernel) (Nat.le_of_ble_eq_true rfl) rfl ?_
          refine pz_iinc (j := 4) (n := 1) (by decide +kernel) rfl rfl (by decide +kernel) (by omega) (by omega) (fun z13 hz13 => ?_)
          show pmE pg X pg_tyl pg_cl (d + 2) 144 48 [.ref 33, .int x1, .int x2, .int z12, .int z13] [] (cd f A R wr) _
          refine pe_goto (off := (-43)) (t := 5) (by decide +kernel) (by decide) rfl ?_
          exact ih z12 z13 (by omega) (by omega)
set_option maxRecDepth 100000 in
set_option maxHeartbeats 8000000 in
theorem CM_144 {X : pm_X} {d : Nat} {wr : pm_W} {f : Nat → Int32} {A : Nat → List Int32} {R : Nat → Value} {x1 x2 : Int32} {v : Nat} (hX : XO X) (hI : CI f A R) (hv : VV v) (hR0 : R 0 = .ref v) (gx1 : (0 ≤ x1.toInt ∧ x1.toInt ≤ 8)) : pmE pg X pg_tyl pg_cl (d + 2) 144 0 (pm_ent (pm_max pg 144) [.ref 33, .int x1, .int x2]) [] (cd f A R wr) (fun q => ∃ (r : Int32), q = (some (.int r), cd f A R wr, 0, 0) ∧ ((True ∧ True))) := by
  have bv := VV_b hv
  show pmE pg X pg_tyl pg_cl (d + 2) 144 0 [.ref 33, .int x1, .int x2, pm_dead, pm_dead] [] (cd f A R wr) _
  refine pe_iconstv (n := 0) (v := 0) (by decide +kernel) (by decide +kernel) ?_
  refine pe_istore_n (j := 3) (ls' := [.ref 33, .int x1, .int x2, .int 0, pm_dead]) (by decide +kernel) (Nat.le_of_ble_eq_true rfl) rfl ?_
  refine pe_iconstv (n := 0) (v := 0) (by decide +kernel) (by decide +kernel) ?_
  refine pe_istore (j := 4) (ls' := [.ref 33, .int x1, .int x2, .int 0, .int 0]) (by decide +kernel) (Nat.le_of_ble_eq_true rfl) rfl ?_
  refine CL_144_5 hX hI hv (hR0) (by omega) (fun y1 y2 gy2 => ?_) 10 0 0 (by decide +kernel) (by decide +kernel)
  refine pe_iload_n (j := 3) (by decide +kernel) rfl ?_
  exact pe_iret (by decide +kernel) rfl rfl ⟨y1, rfl, ⟨trivial, trivial⟩⟩
set_option maxRecDepth 100000 in
set_option maxHeartbeats 8000000 in
theorem CL_143_5 {X : pm_X} {d : Nat} {wr : pm_W} {Q : pm_R → Prop} {f : Nat → Int32} {A : Nat → List Int32} {R : Nat → Value} {x1 x2 : Int32} {v : Nat} (hX : XO X) (hI : CI f A R) (hv : VV v) (hR0 : R 0 = .ref v) (k_46_0 : ∀ (y3 : Int32) (y4 : Int32), (0 ≤ y4.toInt ∧ y4.toInt ≤ 9) → pmE pg X pg_tyl pg_cl (d + 3) 143 46 [.ref 33, .int x1, .int x2, .int y3, .int y4] [] (cd f A R wr) Q) : ∀ (m : Nat) (x3 : Int32) (x4 : Int32), (0 ≤ x4.toInt ∧ x4.toInt ≤ 9) → 9 - x4.toInt < (m : Int) → pmE pg X pg_tyl pg_cl (d + 3) 143 5 [.ref 33, .int x1, .int x2, .int x3, .int x4] [] (cd f A R wr) Q := by
  have bv := VV_b hv
  intro m
  induction m with
  | zero =>
    intro x3 x4 gx4 hm
    exfalso
    have l0 := zi_lo x4
    have u0 := zi_hi x4
    omega
  | succ m ih =>
    intro x3 x4 gx4 hm
    refine pe_iload (j := 4) (by decide +kernel) rfl ?_
    refine pe_aload_n (j := 0) (by decide +kernel) rfl ?_
    refine pe_get (j := 12) (ci := 7) (n := 0) (by decide +kernel) (by decide +kernel) cd_o33 rfl ?_
    refine pe_topV (v := .ref v) (hR0) ?_
    refine pe_get (j := 121) (ci := 9) (n := 0) (by decide +kernel) (by decide +kernel) (cv_o hv) rfl ?_
    have hr_f_16v := cv_people hv hI
    refine pz_icmp_ge (off := 32) (t := 46) (by decide +kernel) (by decide) rfl rfl rfl (fun h1 => ?_) (fun h1 => ?_)
    · skip
      exact k_46_0 x3 x4 (by omega)
    · skip
      refine pe_iload_n (j := 3) (by decide +kernel) rfl ?_
      refine pe_iload_n (j := 1) (by decide +kernel) rfl ?_
      refine pe_iload (j := 4) (by decide +kernel) rfl ?_
      refine pi_S (j := 110) (mj := 89) (by decide +kernel) (by decide +kernel) rfl ?_
      show pmE pg X pg_tyl pg_cl (d + 2) 89 0 [.int x1, .int x4] [] (cd f A R wr) _
      refine pe_iload_n (j := 0) (by decide +kernel) rfl ?_
      refine pe_iload_n (j := 1) (by decide +kernel) rfl ?_
      refine pw_shr (by decide +kernel) (fun z2 => ?_)
      refine pe_iconstv (n := 1) (v := 1) (by decide +kernel) (by decide +kernel) ?_
      refine pz_and1 (by decide +kernel) (fun z3 hz3 => ?_)
      refine pz_if_eq (off := 7) (t := 12) (by decide +kernel) (by decide) rfl rfl (fun h4 => ?_) (fun h4 => ?_)
      · skip
        refine pe_iconstv (n := 0) (v := 0) (by decide +kernel) (by decide +kernel) ?_
        refine pe_iret (by decide +kernel) rfl rfl ⟨rfl, rfl, ?_⟩
        show pmE pg X pg_tyl pg_cl (d + 3) 143 24 [.ref 33, .int x1, .int x2, .int x3, .int x4] [.int 0, .int x3] (cd f A R wr) _
        refine pz_if_eq (off := 13) (t := 37) (by decide +kernel) (by decide) rfl kz_0 (fun h5 => ?_) (fun h5 => by omega)
        refine pe_iconstv (n := 0) (v := 0) (by decide +kernel) (by decide +kernel) ?_
        refine pw_or (by decide +kernel) (fun z6 => ?_)
        refine pe_istore_n (j := 3) (ls' := [.ref 33, .int x1, .int x2, .int z6, .int x4]) (by decide +kernel) (Nat.le_of_ble_eq_true rfl) rfl ?_
        refine pz_iinc (j := 4) (n := 1) (by decide +kernel) rfl rfl (by decide +kernel) (by omega) (by omega) (fun z7 hz7 => ?_)
        show pmE pg X pg_tyl pg_cl (d + 3) 143 43 [.ref 33, .int x1, .int x2, .int z6, .int z7] [] (cd f A R wr) _
        refine pe_goto (off := (-38)) (t := 5) (by decide +kernel) (by decide) rfl ?_
        exact ih z6 z7 (by omega) (by omega)
      · skip
        refine pe_iconstv (n := 1) (v := 1) (by decide +kernel) (by decide +kernel) ?_
        refine pe_goto (off := 4) (t := 13) (by decide +kernel) (by decide) rfl ?_
        refine pe_iret (by decide +kernel) rfl rfl ⟨rfl, rfl, ?_⟩
        show pmE pg X pg_tyl pg_cl (d + 3) 143 24 [.ref 33, .int x1, .int x2, .int x3, .int x4] [.int 1, .int x3] (cd f A R wr) _
        refine pz_if_eq (off := 13) (t := 37) (by decide +kernel) (by decide) rfl kz_1 (fun h8 => by omega) (fun h8 => ?_)
        refine pe_aload_n (j := 0) (by decide +kernel) rfl ?_
        refine pe_iload (j := 4) (by decide +kernel) rfl ?_
        refine pe_iload_n (j := 2) (by decide +kernel) rfl ?_
        refine pz_callV (j := 136) (mj := 144) (by decide +kernel) (cll_V (args := [.int x2, .int x4]) (n := 2) (by decide +kernel) rfl rfl cd_o33 (by decide +kernel) (Nat.le_of_ble_eq_true rfl) (Nat.le_of_ble_eq_true rfl)) (CM_144 hX hI hv (hR0) (by omega)) (fun q9a q9b q9c q9d hqq9 => ?_)
        obtain ⟨rq9, eq9, kq9⟩ := hqq9
        cases eq9
        refine ⟨rfl, rfl, ?_⟩
        show pmE pg X pg_tyl pg_cl (d + 3) 143 34 [.ref 33, .int x1, .int x2, .int x3, .int x4] [.int rq9, .int x3] (cd f A R wr) _
        refine pe_goto (off := 4) (t := 38) (by decide +kernel) (by decide) rfl ?_
        refine pw_or (by decide +kernel) (fun z10 => ?_)
        refine pe_istore_n (j := 3) (ls' := [.ref 33, .int x1, .int x2, .int z10, .int x4]) (by decide +kernel) (Nat.le_of_ble_eq_true rfl) rfl ?_
        refine pz_iinc (j := 4) (n := 1) (by decide +kernel) rfl rfl (by decide +kernel) (by omega) (by omega) (fun z11 hz11 => ?_)
        show pmE pg X pg_tyl pg_cl (d + 3) 143 43 [.ref 33, .int x1, .int x2, .int z10, .int z11] [] (cd f A R wr) _
        refine pe_goto (off := (-38)) (t := 5) (by decide +kernel) (by decide) rfl ?_
        exact ih z10 z11 (by omega) (by omega)
set_option maxRecDepth 100000 in
set_option maxHeartbeats 8000000 in
theorem CM_143 {X : pm_X} {d : Nat} {wr : pm_W} {f : Nat → Int32} {A : Nat → List Int32} {R : Nat → Value} {x1 x2 : Int32} {v : Nat} (hX : XO X) (hI : CI f A R) (hv : VV v) (hR0 : R 0 = .ref v) : pmE pg X pg_tyl pg_cl (d + 3) 143 0 (pm_ent (pm_max pg 143) [.ref 33, .int x1, .int x2]) [] (cd f A R wr) (fun q => ∃ (r : Int32), q = (some (.int r), cd f A R wr, 0, 0) ∧ ((True ∧ True))) := by
  have bv := VV_b hv
  show pmE pg X pg_tyl pg_cl (d + 3) 143 0 [.ref 33, .int x1, .int x2, pm_dead, pm_dead] [] (cd f A R wr) _
  refine pe_iconstv (n := 0) (v := 0) (by decide +kernel) (by decide +kernel) ?_
  refine pe_istore_n (j := 3) (ls' := [.ref 33, .int x1, .int x2, .int 0, pm_dead]) (by decide +kernel) (Nat.le_of_ble_eq_true rfl) rfl ?_
  refine pe_iconstv (n := 0) (v := 0) (by decide +kernel) (by decide +kernel) ?_
  refine pe_istore (j := 4) (ls' := [.ref 33, .int x1, .int x2, .int 0, .int 0]) (by decide +kernel) (Nat.le_of_ble_eq_true rfl) rfl ?_
  refine CL_143_5 hX hI hv (hR0) (fun y1 y2 gy2 => ?_) 10 0 0 (by decide +kernel) (by decide +kernel)
  refine pe_iload_n (j := 3) (by decide +kernel) rfl ?_
  exact pe_iret (by decide +kernel) rfl rfl ⟨y1, rfl, ⟨trivial, trivial⟩⟩
