set_option maxRecDepth 100000 in
set_option maxHeartbeats 8000000 in
theorem CL_32_10_20 {X : pm_X} {d : Nat} {wr : pm_W} {Q : pm_R → Prop} {f : Nat → Int32} {A : Nat → List Int32} {R : Nat → Value} (hX : XO X) (hI : CI f A R) (hR4 : R 4 = .ref 4) (k_54_0 : ∀ (y2 : Int32), (4 ≤ y2.toInt ∧ y2.toInt ≤ 4) → pmE pg X pg_tyl pg_cl (d + 5) 32 54 [.ref 23, .retAddr 40, .int y2] [] (cd f A R wr) Q) (kr_0 : Q (some (.int 0), cd f A R wr, 0, 0)) : ∀ (m : Nat) (x2 : Int32), (0 ≤ x2.toInt ∧ x2.toInt ≤ 4) → 4 - x2.toInt < (m : Int) → pmE pg X pg_tyl pg_cl (d + 5) 32 20 [.ref 23, .retAddr 40, .int x2] [] (cd f A R wr) Q := by
  intro m
  induction m with
  | zero =>
    intro x2 gx2 hm
    exfalso
    have l0 := zi_lo x2
    have u0 := zi_hi x2
    omega
  | succ m ih =>
    intro x2 gx2 hm
    refine pe_iload_n (j := 2) (by decide +kernel) rfl ?_
    refine pe_aloadX_n (j := 1) (by decide +kernel) rfl ?_
    refine pi_V (j := 179) (mj := 33) (by decide +kernel) (cll_T (args := []) (n := 0) (by decide +kernel) rfl rfl (hX 40 (by decide +kernel)) (by decide +kernel) (Nat.le_of_ble_eq_true rfl) (Nat.le_of_ble_eq_true rfl)) ?_
    show pmE pg X pg_tyl pg_cl (d + 4) 33 0 [.retAddr 40] [] (cd f A R wr) _
    refine pe_aloadX_n (j := 0) (by decide +kernel) rfl ?_
    refine pe_getT1 (k := 9) (by decide +kernel) (hX 40 (by decide +kernel)) (by decide +kernel) ?_
    refine pe_alenXv (v := 4) (by decide +kernel) (hX 41 (by decide +kernel)) (by decide +kernel) (by decide +kernel) ?_
    refine pe_aloadX_n (j := 0) (by decide +kernel) rfl ?_
    refine pi_V (j := 335) (mj := 34) (by decide +kernel) (cll_T (args := []) (n := 0) (by decide +kernel) rfl rfl (hX 40 (by decide +kernel)) (by decide +kernel) (Nat.le_of_ble_eq_true rfl) (Nat.le_of_ble_eq_true rfl)) ?_
    show pmE pg X pg_tyl pg_cl (d + 3) 34 0 [.retAddr 40] [] (cd f A R wr) _
    refine pe_getstatic (j := 38) (v := .int 1) (by decide +kernel) (by decide +kernel) ?_
    refine pz_if_eq (off := 10) (t := 13) (by decide +kernel) (by decide) rfl kz_1 (fun h1 => by omega) (fun h1 => ?_)
    refine pe_aloadX_n (j := 0) (by decide +kernel) rfl ?_
    refine pe_getT0 (k := 15) (by decide +kernel) (hX 40 (by decide +kernel)) (by decide +kernel) ?_
    refine pe_goto (off := 4) (t := 14) (by decide +kernel) (by decide) rfl ?_
    refine pe_iret (by decide +kernel) rfl (by decide +kernel) ⟨rfl, rfl, ?_⟩
    show pmE pg X pg_tyl pg_cl (d + 4) 33 9 [.retAddr 40] [.int 0, .int 4] (cd f A R wr) _
    refine pe_ishr (by decide +kernel) ?_
    refine pe_top (v := 4) (by decide +kernel) ?_
    refine pe_iret (by decide +kernel) rfl rfl ⟨rfl, rfl, ?_⟩
    show pmE pg X pg_tyl pg_cl (d + 5) 32 25 [.ref 23, .retAddr 40, .int x2] [.int 4, .int x2] (cd f A R wr) _
    refine pz_icmp_ge (off := 29) (t := 54) (by decide +kernel) (by decide) rfl rfl kz_4 (fun h3 => ?_) (fun h3 => ?_)
    · skip
      exact k_54_0 x2 (by omega)
    · skip
      refine pe_aload_n (j := 0) (by decide +kernel) rfl ?_
      refine pe_aload_n (j := 0) (by decide +kernel) rfl ?_
      refine pe_get (j := 69) (ci := 4) (n := 7) (by decide +kernel) (by decide +kernel) cd_o23 rfl ?_
      have hr_f_375 := cf_375 hI
      refine pe_iload_n (j := 2) (by decide +kernel) rfl ?_
      refine pz_add (by decide +kernel) rfl rfl (by omega) (by omega) (fun z4 hz4 => ?_)
      refine pi_V (j := 184) (mj := 24) (by decide +kernel) (cll_V (args := [.int z4]) (n := 1) (by decide +kernel) rfl rfl cd_o23 (by decide +kernel) (Nat.le_of_ble_eq_true rfl) (Nat.le_of_ble_eq_true rfl)) ?_
      show pmE pg X pg_tyl pg_cl (d + 4) 24 0 [.ref 23, .int z4] [] (cd f A R wr) _
      refine pe_iload_n (j := 1) (by decide +kernel) rfl ?_
      refine pz_if_lt (off := 20) (t := 21) (by decide +kernel) (by decide) rfl hz4 (fun h5 => by omega) (fun h5 => ?_)
      refine pe_iload_n (j := 1) (by decide +kernel) rfl ?_
      refine pe_aload_n (j := 0) (by decide +kernel) rfl ?_
      refine pe_get (j := 43) (ci := 4) (n := 4) (by decide +kernel) (by decide +kernel) cd_o23 rfl ?_
      have hr_f_372 := cf_372 hI
      refine pz_icmp_ge (off := 12) (t := 21) (by decide +kernel) (by decide) rfl hz4 rfl (fun h6 => ?_) (fun h6 => ?_)
      · skip
        refine pe_iconstv (n := (-1)) (v := (-1)) (by decide +kernel) (by decide +kernel) ?_
        refine pe_iret (by decide +kernel) rfl rfl ⟨rfl, rfl, ?_⟩
        show pmE pg X pg_tyl pg_cl (d + 5) 32 38 [.ref 23, .retAddr 40, .int x2] [.int (-1)] (cd f A R wr) _
        refine pe_aloadX_n (j := 1) (by decide +kernel) rfl ?_
        refine pe_iload_n (j := 2) (by decide +kernel) rfl ?_
        refine pi_V (j := 187) (mj := 35) (by decide +kernel) (cll_T (args := [.int x2]) (n := 1) (by decide +kernel) rfl rfl (hX 40 (by decide +kernel)) (by decide +kernel) (Nat.le_of_ble_eq_true rfl) (Nat.le_of_ble_eq_true rfl)) ?_
        show pmE pg X pg_tyl pg_cl (d + 4) 35 0 [.retAddr 40, .int x2] [] (cd f A R wr) _
        refine pe_aloadX_n (j := 0) (by decide +kernel) rfl ?_
        refine pi_V (j := 492) (mj := 36) (by decide +kernel) (cll_T (args := []) (n := 0) (by decide +kernel) rfl rfl (hX 40 (by decide +kernel)) (by decide +kernel) (Nat.le_of_ble_eq_true rfl) (Nat.le_of_ble_eq_true rfl)) ?_
        show pmE pg X pg_tyl pg_cl (d + 3) 36 0 [.retAddr 40] [] (cd f A R wr) _
        refine pe_getstatic (j := 38) (v := .int 1) (by decide +kernel) (by decide +kernel) ?_
        refine pz_if_eq (off := 14) (t := 17) (by decide +kernel) (by decide) rfl kz_1 (fun h7 => by omega) (fun h7 => ?_)
        refine pe_aloadX_n (j := 0) (by decide +kernel) rfl ?_
        refine pe_getT0 (k := 15) (by decide +kernel) (hX 40 (by decide +kernel)) (by decide +kernel) ?_
        refine pz_if_ne (off := 7) (t := 17) (by decide +kernel) (by decide) rfl kz_0 (fun h8 => by omega) (fun h8 => ?_)
        refine pe_iconstv (n := 1) (v := 1) (by decide +kernel) (by decide +kernel) ?_
        refine pe_goto (off := 4) (t := 18) (by decide +kernel) (by decide) rfl ?_
        refine pe_iret (by decide +kernel) rfl rfl ⟨rfl, rfl, ?_⟩
        show pmE pg X pg_tyl pg_cl (d + 4) 35 4 [.retAddr 40, .int x2] [.int 1] (cd f A R wr) _
        refine pz_if_eq (off := 12) (t := 16) (by decide +kernel) (by decide) rfl kz_1 (fun h9 => by omega) (fun h9 => ?_)
        refine pe_aloadX_n (j := 0) (by decide +kernel) rfl ?_
        refine pe_getT1 (k := 9) (by decide +kernel) (hX 40 (by decide +kernel)) (by decide +kernel) ?_
        refine pe_iload_n (j := 1) (by decide +kernel) rfl ?_
        refine pi_S (j := 495) (mj := 37) (by decide +kernel) (by decide +kernel) rfl ?_
        show pmE pg X pg_tyl pg_cl (d + 3) 37 0 [.retAddr 41, .int x2] [] (cd f A R wr) _
        refine pe_iload_n (j := 1) (by decide +kernel) rfl ?_
        refine pe_aloadX_n (j := 0) (by decide +kernel) rfl ?_
        refine pe_alenXv (v := 4) (by decide +kernel) (hX 41 (by decide +kernel)) (by decide +kernel) (by decide +kernel) ?_
        refine pi_S (j := 9) (mj := 38) (by decide +kernel) (by decide +kernel) rfl ?_
        show pmE pg X pg_tyl pg_cl (d + 2) 38 0 [.int x2, .int 4] [] (cd f A R wr) _
        refine pe_iload_n (j := 0) (by decide +kernel) rfl ?_
        refine pe_iload_n (j := 1) (by decide +kernel) rfl ?_
        refine pe_getstatic (j := 1053) (v := .retAddr 99) (by decide +kernel) (by decide +kernel) ?_
        refine pi_S (j := 1059) (mj := 39) (by decide +kernel) (by decide +kernel) rfl ?_
        show pmE pg X pg_tyl pg_cl (d + 1) 39 0 [.int x2, .int 4, .retAddr 99] [] (cd f A R wr) _
        refine pe_iload_n (j := 0) (by decide +kernel) rfl ?_
        refine pz_if_lt (off := 8) (t := 9) (by decide +kernel) (by decide) rfl rfl (fun h10 => by omega) (fun h10 => ?_)
        refine pe_iload_n (j := 0) (by decide +kernel) rfl ?_
        refine pe_iload_n (j := 1) (by decide +kernel) rfl ?_
        refine pz_icmp_lt (off := 10) (t := 16) (by decide +kernel) (by decide) rfl rfl kz_4 (fun h11 => ?_) (fun h11 => by omega)
        refine pe_iload_n (j := 0) (by decide +kernel) rfl ?_
        refine pe_iret (by decide +kernel) rfl rfl ⟨rfl, rfl, ?_⟩
        show pmE pg X pg_tyl pg_cl (d + 2) 38 8 [.int x2, .int 4] [.int x2] (cd f A R wr) _
        refine pe_pop (by decide +kernel) rfl ?_
        refine pe_vret (by decide +kernel) rfl ⟨rfl, rfl, ?_⟩
        show pmE pg X pg_tyl pg_cl (d + 3) 37 6 [.retAddr 41, .int x2] [] (cd f A R wr) _
        refine pe_aloadX_n (j := 0) (by decide +kernel) rfl ?_
        refine pe_iload_n (j := 1) (by decide +kernel) rfl ?_
        refine pz_baldX (by decide +kernel) (hX 41 (by decide +kernel)) rfl rfl (by omega) (by omega) (fun v12 ev12 => ?_)
        have rv12 : 0 ≤ v12.toInt ∧ v12.toInt ≤ 115 := by rw [ev12]; exact lt_all (by decide +kernel) (by decide) _
        refine pe_sipushv (n := 255) (v := 255) (by decide +kernel) (by decide +kernel) ?_
        refine pz_and255 (by decide +kernel) (fun z13 hz13 => ?_)
        refine pz_i2c (by decide +kernel) rfl (by omega) (by omega) (fun z14 hz14 => ?_)
        rw [hz14]
        refine pe_iret (by decide +kernel) rfl (nz_c (by omega)) ⟨rfl, rfl, ?_⟩
        show pmE pg X pg_tyl pg_cl (d + 4) 35 15 [.retAddr 40, .int x2] [.int z13] (cd f A R wr) _
        refine pe_iret (by decide +kernel) rfl (nz_c (by omega)) ⟨rfl, rfl, ?_⟩
        show pmE pg X pg_tyl pg_cl (d + 5) 32 43 [.ref 23, .retAddr 40, .int x2] [.int z13, .int (-1)] (cd f A R wr) _
        refine pz_icmp_eq (off := 5) (t := 48) (by decide +kernel) (by decide) rfl kz_m1 rfl (fun h15 => by omega) (fun h15 => ?_)
        refine pe_iconstv (n := 0) (v := 0) (by decide +kernel) (by decide +kernel) ?_
        exact pe_iret (by decide +kernel) rfl rfl kr_0
      · skip
        refine pe_aload_n (j := 0) (by decide +kernel) rfl ?_
        refine pe_get (j := 29) (ci := 4) (n := 3) (by decide +kernel) (by decide +kernel) cd_o23 rfl ?_
        refine pe_topV (v := .ref 4) (hR4) ?_
        refine pe_iload_n (j := 1) (by decide +kernel) rfl ?_
        refine pz_bald (by decide +kernel) cd_a4 (cl_4 hI) hz4 (by omega) (by omega) (fun v16 ev16 => ?_)
        have rv16 : (-128) ≤ v16.toInt ∧ v16.toInt ≤ 127 := ct_4 hI ev16
        refine pe_goto (off := 4) (t := 22) (by decide +kernel) (by decide) rfl ?_
        refine pe_iret (by decide +kernel) rfl rfl ⟨rfl, rfl, ?_⟩
        show pmE pg X pg_tyl pg_cl (d + 5) 32 38 [.ref 23, .retAddr 40, .int x2] [.int v16] (cd f A R wr) _
        refine pe_aloadX_n (j := 1) (by decide +kernel) rfl ?_
        refine pe_iload_n (j := 2) (by decide +kernel) rfl ?_
        refine pi_V (j := 187) (mj := 35) (by decide +kernel) (cll_T (args := [.int x2]) (n := 1) (by decide +kernel) rfl rfl (hX 40 (by decide +kernel)) (by decide +kernel) (Nat.le_of_ble_eq_true rfl) (Nat.le_of_ble_eq_true rfl)) ?_
        show pmE pg X pg_tyl pg_cl (d + 4) 35 0 [.retAddr 40, .int x2] [] (cd f A R wr) _
        refine pe_aloadX_n (j := 0) (by decide +kernel) rfl ?_
        refine pi_V (j := 492) (mj := 36) (by decide +kernel) (cll_T (args := []) (n := 0) (by decide +kernel) rfl rfl (hX 40 (by decide +kernel)) (by decide +kernel) (Nat.le_of_ble_eq_true rfl) (Nat.le_of_ble_eq_true rfl)) ?_
        show pmE pg X pg_tyl pg_cl (d + 3) 36 0 [.retAddr 40] [] (cd f A R wr) _
        refine pe_getstatic (j := 38) (v := .int 1) (by decide +kernel) (by decide +kernel) ?_
        refine pz_if_eq (off := 14) (t := 17) (by decide +kernel) (by decide) rfl kz_1 (fun h17 => by omega) (fun h17 => ?_)
        refine pe_aloadX_n (j := 0) (by decide +kernel) rfl ?_
        refine pe_getT0 (k := 15) (by decide +kernel) (hX 40 (by decide +kernel)) (by decide +kernel) ?_
        refine pz_if_ne (off := 7) (t := 17) (by decide +kernel) (by decide) rfl kz_0 (fun h18 => by omega) (fun h18 => ?_)
        refine pe_iconstv (n := 1) (v := 1) (by decide +kernel) (by decide +kernel) ?_
        refine pe_goto (off := 4) (t := 18) (by decide +kernel) (by decide) rfl ?_
        refine pe_iret (by decide +kernel) rfl rfl ⟨rfl, rfl, ?_⟩
        show pmE pg X pg_tyl pg_cl (d + 4) 35 4 [.retAddr 40, .int x2] [.int 1] (cd f A R wr) _
        refine pz_if_eq (off := 12) (t := 16) (by decide +kernel) (by decide) rfl kz_1 (fun h19 => by omega) (fun h19 => ?_)
        refine pe_aloadX_n (j := 0) (by decide +kernel) rfl ?_
        refine pe_getT1 (k := 9) (by decide +kernel) (hX 40 (by decide +kernel)) (by decide +kernel) ?_
        refine pe_iload_n (j := 1) (by decide +kernel) rfl ?_
        refine pi_S (j := 495) (mj := 37) (by decide +kernel) (by decide +kernel) rfl ?_
        show pmE pg X pg_tyl pg_cl (d + 3) 37 0 [.retAddr 41, .int x2] [] (cd f A R wr) _
        refine pe_iload_n (j := 1) (by decide +kernel) rfl ?_
        refine pe_aloadX_n (j := 0) (by decide +kernel) rfl ?_
        refine pe_alenXv (v := 4) (by decide +kernel) (hX 41 (by decide +kernel)) (by decide +kernel) (by decide +kernel) ?_
        refine pi_S (j := 9) (mj := 38) (by decide +kernel) (by decide +kernel) rfl ?_
        show pmE pg X pg_tyl pg_cl (d + 2) 38 0 [.int x2, .int 4] [] (cd f A R wr) _
        refine pe_iload_n (j := 0) (by decide +kernel) rfl ?_
        refine pe_iload_n (j := 1) (by decide +kernel) rfl ?_
        refine pe_getstatic (j := 1053) (v := .retAddr 99) (by decide +kernel) (by decide +kernel) ?_
        refine pi_S (j := 1059) (mj := 39) (by decide +kernel) (by decide +kernel) rfl ?_
        show pmE pg X pg_tyl pg_cl (d + 1) 39 0 [.int x2, .int 4, .retAddr 99] [] (cd f A R wr) _
        refine pe_iload_n (j := 0) (by decide +kernel) rfl ?_
        refine pz_if_lt (off := 8) (t := 9) (by decide +kernel) (by decide) rfl rfl (fun h20 => by omega) (fun h20 => ?_)
        refine pe_iload_n (j := 0) (by decide +kernel) rfl ?_
        refine pe_iload_n (j := 1) (by decide +kernel) rfl ?_
        refine pz_icmp_lt (off := 10) (t := 16) (by decide +kernel) (by decide) rfl rfl kz_4 (fun h21 => ?_) (fun h21 => by omega)
        refine pe_iload_n (j := 0) (by decide +kernel) rfl ?_
        refine pe_iret (by decide +kernel) rfl rfl ⟨rfl, rfl, ?_⟩
        show pmE pg X pg_tyl pg_cl (d + 2) 38 8 [.int x2, .int 4] [.int x2] (cd f A R wr) _
        refine pe_pop (by decide +kernel) rfl ?_
        refine pe_vret (by decide +kernel) rfl ⟨rfl, rfl, ?_⟩
        show pmE pg X pg_tyl pg_cl (d + 3) 37 6 [.retAddr 41, .int x2] [] (cd f A R wr) _
        refine pe_aloadX_n (j := 0) (by decide +kernel) rfl ?_
        refine pe_iload_n (j := 1) (by decide +kernel) rfl ?_
        refine pz_baldX (by decide +kernel) (hX 41 (by decide +kernel)) rfl rfl (by omega) (by omega) (fun v22 ev22 => ?_)
        have rv22 : 0 ≤ v22.toInt ∧ v22.toInt ≤ 115 := by rw [ev22]; exact lt_all (by decide +kernel) (by decide) _
        refine pe_sipushv (n := 255) (v := 255) (by decide +kernel) (by decide +kernel) ?_
        refine pz_and255 (by decide +kernel) (fun z23 hz23 => ?_)
        refine pz_i2c (by decide +kernel) rfl (by omega) (by omega) (fun z24 hz24 => ?_)
        rw [hz24]
        refine pe_iret (by decide +kernel) rfl (nz_c (by omega)) ⟨rfl, rfl, ?_⟩
        show pmE pg X pg_tyl pg_cl (d + 4) 35 15 [.retAddr 40, .int x2] [.int z23] (cd f A R wr) _
        refine pe_iret (by decide +kernel) rfl (nz_c (by omega)) ⟨rfl, rfl, ?_⟩
        show pmE pg X pg_tyl pg_cl (d + 5) 32 43 [.ref 23, .retAddr 40, .int x2] [.int z23, .int v16] (cd f A R wr) _
        refine pz_icmp_eq (off := 5) (t := 48) (by decide +kernel) (by decide) rfl rfl rfl (fun h25 => ?_) (fun h25 => ?_)
        · skip
          refine pz_iinc (j := 2) (n := 1) (by decide +kernel) rfl rfl (by decide +kernel) (by omega) (by omega) (fun z26 hz26 => ?_)
          show pmE pg X pg_tyl pg_cl (d + 5) 32 51 [.ref 23, .retAddr 40, .int z26] [] (cd f A R wr) _
          refine pe_goto (off := (-31)) (t := 20) (by decide +kernel) (by decide) rfl ?_
          exact ih z26 (by omega) (by omega)
        · skip
          refine pe_iconstv (n := 0) (v := 0) (by decide +kernel) (by decide +kernel) ?_
          exact pe_iret (by decide +kernel) rfl rfl kr_0
set_option maxRecDepth 100000 in
set_option maxHeartbeats 8000000 in
theorem CM_32_10 {X : pm_X} {d : Nat} {wr : pm_W} {f : Nat → Int32} {A : Nat → List Int32} {R : Nat → Value} (hX : XO X) (hI : CI f A R) (hR4 : R 4 = .ref 4) : pmE pg X pg_tyl pg_cl (d + 5) 32 0 (pm_ent (pm_max pg 32) [.ref 23, .retAddr 40]) [] (cd f A R wr) (fun q => ∃ (r : Int32), q = (some (.int r), cd f A R wr, 0, 0) ∧ ((r = 0 ∧ True) ∨ (r = 1 ∧ True))) := by
  show pmE pg X pg_tyl pg_cl (d + 5) 32 0 [.ref 23, .retAddr 40, pm_dead] [] (cd f A R wr) _
  refine pe_aload_n (j := 0) (by decide +kernel) rfl ?_
  refine pe_get (j := 47) (ci := 4) (n := 5) (by decide +kernel) (by decide +kernel) cd_o23 rfl ?_
  have hr_f_373 := cf_373 hI
  refine pe_aload_n (j := 0) (by decide +kernel) rfl ?_
  refine pe_get (j := 69) (ci := 4) (n := 7) (by decide +kernel) (by decide +kernel) cd_o23 rfl ?_
  have hr_f_375 := cf_375 hI
  refine pz_sub (by decide +kernel) rfl rfl (by omega) (by omega) (fun z1 hz1 => ?_)
  refine pe_aloadX_n (j := 1) (by decide +kernel) rfl ?_
  refine pi_V (j := 179) (mj := 33) (by decide +kernel) (cll_T (args := []) (n := 0) (by decide +kernel) rfl rfl (hX 40 (by decide +kernel)) (by decide +kernel) (Nat.le_of_ble_eq_true rfl) (Nat.le_of_ble_eq_true rfl)) ?_
  show pmE pg X pg_tyl pg_cl (d + 4) 33 0 [.retAddr 40] [] (cd f A R wr) _
  refine pe_aloadX_n (j := 0) (by decide +kernel) rfl ?_
  refine pe_getT1 (k := 9) (by decide +kernel) (hX 40 (by decide +kernel)) (by decide +kernel) ?_
  refine pe_alenXv (v := 4) (by decide +kernel) (hX 41 (by decide +kernel)) (by decide +kernel) (by decide +kernel) ?_
  refine pe_aloadX_n (j := 0) (by decide +kernel) rfl ?_
  refine pi_V (j := 335) (mj := 34) (by decide +kernel) (cll_T (args := []) (n := 0) (by decide +kernel) rfl rfl (hX 40 (by decide +kernel)) (by decide +kernel) (Nat.le_of_ble_eq_true rfl) (Nat.le_of_ble_eq_true rfl)) ?_
  show pmE pg X pg_tyl pg_cl (d + 3) 34 0 [.retAddr 40] [] (cd f A R wr) _
  refine pe_getstatic (j := 38) (v := .int 1) (by decide +kernel) (by decide +kernel) ?_
  refine pz_if_eq (off := 10) (t := 13) (by decide +kernel) (by decide) rfl kz_1 (fun h2 => by omega) (fun h2 => ?_)
  refine pe_aloadX_n (j := 0) (by decide +kernel) rfl ?_
  refine pe_getT0 (k := 15) (by decide +kernel) (hX 40 (by decide +kernel)) (by decide +kernel) ?_
  refine pe_goto (off := 4) (t := 14) (by decide +kernel) (by decide) rfl ?_
  refine pe_iret (by decide +kernel) rfl (by decide +kernel) ⟨rfl, rfl, ?_⟩
  show pmE pg X pg_tyl pg_cl (d + 4) 33 9 [.retAddr 40] [.int 0, .int 4] (cd f A R wr) _
  refine pe_ishr (by decide +kernel) ?_
  refine pe_top (v := 4) (by decide +kernel) ?_
  refine pe_iret (by decide +kernel) rfl rfl ⟨rfl, rfl, ?_⟩
  show pmE pg X pg_tyl pg_cl (d + 5) 32 13 [.ref 23, .retAddr 40, pm_dead] [.int 4, .int z1] (cd f A R wr) _
  refine pz_icmp_eq (off := 5) (t := 18) (by decide +kernel) (by decide) rfl hz1 kz_4 (fun h4 => ?_) (fun h4 => ?_)
  · skip
    clear hz1
    refine pe_iconstv (n := 0) (v := 0) (by decide +kernel) (by decide +kernel) ?_
    refine pe_istore_n (j := 2) (ls' := [.ref 23, .retAddr 40, .int 0]) (by decide +kernel) (Nat.le_of_ble_eq_true rfl) rfl ?_
    refine CL_32_10_20 hX hI (hR4) (fun y5 gy5 => ?_) (⟨0, rfl, Or.inl ⟨rfl, trivial⟩⟩) 5 0 (by decide +kernel) (by decide +kernel)
    refine pe_iconstv (n := 1) (v := 1) (by decide +kernel) (by decide +kernel) ?_
    exact pe_iret (by decide +kernel) rfl rfl ⟨1, rfl, Or.inr (⟨rfl, trivial⟩)⟩
  · skip
    clear hz1
    refine pe_iconstv (n := 0) (v := 0) (by decide +kernel) (by decide +kernel) ?_
    exact pe_iret (by decide +kernel) rfl rfl ⟨0, rfl, Or.inl ⟨rfl, trivial⟩⟩
set_option maxRecDepth 100000 in
set_option maxHeartbeats 8000000 in
theorem CL_32_11_20 {X : pm_X} {d : Nat} {wr : pm_W} {Q : pm_R → Prop} {f : Nat → Int32} {A : Nat → List Int32} {R : Nat → Value} (hX : XO X) (hI : CI f A R) (hR4 : R 4 = .ref 4) (k_54_0 : ∀ (y2 : Int32), (5 ≤ y2.toInt ∧ y2.toInt ≤ 5) → pmE pg X pg_tyl pg_cl (d + 5) 32 54 [.ref 23, .retAddr 42, .int y2] [] (cd f A R wr) Q) (kr_0 : Q (some (.int 0), cd f A R wr, 0, 0)) : ∀ (m : Nat) (x2 : Int32), (0 ≤ x2.toInt ∧ x2.toInt ≤ 5) → 5 - x2.toInt < (m : Int) → pmE pg X pg_tyl pg_cl (d + 5) 32 20 [.ref 23, .retAddr 42, .int x2] [] (cd f A R wr) Q := by
  intro m
  induction m with
  | zero =>
    intro x2 gx2 hm
    exfalso
    have l0 := zi_lo x2
    have u0 := zi_hi x2
    omega
  | succ m ih =>
    intro x2 gx2 hm
    refine pe_iload_n (j := 2) (by decide +kernel) rfl ?_
    refine pe_aloadX_n (j := 1) (by decide +kernel) rfl ?_
    refine pi_V (j := 179) (mj := 33) (by decide +kernel) (cll_T (args := []) (n := 0) (by decide +kernel) rfl rfl (hX 42 (by decide +kernel)) (by decide +kernel) (Nat.le_of_ble_eq_true rfl) (Nat.le_of_ble_eq_true rfl)) ?_
    show pmE pg X pg_tyl pg_cl (d + 4) 33 0 [.retAddr 42] [] (cd f A R wr) _
    refine pe_aloadX_n (j := 0) (by decide +kernel) rfl ?_
    refine pe_getT1 (k := 9) (by decide +kernel) (hX 42 (by decide +kernel)) (by decide +kernel) ?_
    refine pe_alenXv (v := 5) (by decide +kernel) (hX 43 (by decide +kernel)) (by decide +kernel) (by decide +kernel) ?_
    refine pe_aloadX_n (j := 0) (by decide +kernel) rfl ?_
    refine pi_V (j := 335) (mj := 34) (by decide +kernel) (cll_T (args := []) (n := 0) (by decide +kernel) rfl rfl (hX 42 (by decide +kernel)) (by decide +kernel) (Nat.le_of_ble_eq_true rfl) (Nat.le_of_ble_eq_true rfl)) ?_
    show pmE pg X pg_tyl pg_cl (d + 3) 34 0 [.retAddr 42] [] (cd f A R wr) _
    refine pe_getstatic (j := 38) (v := .int 1) (by decide +kernel) (by decide +kernel) ?_
    refine pz_if_eq (off := 10) (t := 13) (by decide +kernel) (by decide) rfl kz_1 (fun h1 => by omega) (fun h1 => ?_)
    refine pe_aloadX_n (j := 0) (by decide +kernel) rfl ?_
    refine pe_getT0 (k := 15) (by decide +kernel) (hX 42 (by decide +kernel)) (by decide +kernel) ?_
    refine pe_goto (off := 4) (t := 14) (by decide +kernel) (by decide) rfl ?_
    refine pe_iret (by decide +kernel) rfl (by decide +kernel) ⟨rfl, rfl, ?_⟩
    show pmE pg X pg_tyl pg_cl (d + 4) 33 9 [.retAddr 42] [.int 0, .int 5] (cd f A R wr) _
    refine pe_ishr (by decide +kernel) ?_
    refine pe_top (v := 5) (by decide +kernel) ?_
    refine pe_iret (by decide +kernel) rfl rfl ⟨rfl, rfl, ?_⟩
    show pmE pg X pg_tyl pg_cl (d + 5) 32 25 [.ref 23, .retAddr 42, .int x2] [.int 5, .int x2] (cd f A R wr) _
    refine pz_icmp_ge (off := 29) (t := 54) (by decide +kernel) (by decide) rfl rfl kz_5 (fun h3 => ?_) (fun h3 => ?_)
    · skip
      exact k_54_0 x2 (by omega)
    · skip
      refine pe_aload_n (j := 0) (by decide +kernel) rfl ?_
      refine pe_aload_n (j := 0) (by decide +kernel) rfl ?_
      refine pe_get (j := 69) (ci := 4) (n := 7) (by decide +kernel) (by decide +kernel) cd_o23 rfl ?_
      have hr_f_375 := cf_375 hI
      refine pe_iload_n (j := 2) (by decide +kernel) rfl ?_
      refine pz_add (by decide +kernel) rfl rfl (by omega) (by omega) (fun z4 hz4 => ?_)
      refine pi_V (j := 184) (mj := 24) (by decide +kernel) (cll_V (args := [.int z4]) (n := 1) (by decide +kernel) rfl rfl cd_o23 (by decide +kernel) (Nat.le_of_ble_eq_true rfl) (Nat.le_of_ble_eq_true rfl)) ?_
      show pmE pg X pg_tyl pg_cl (d + 4) 24 0 [.ref 23, .int z4] [] (cd f A R wr) _
      refine pe_iload_n (j := 1) (by decide +kernel) rfl ?_
      refine pz_if_lt (off := 20) (t := 21) (by decide +kernel) (by decide) rfl hz4 (fun h5 => by omega) (fun h5 => ?_)
      refine pe_iload_n (j := 1) (by decide +kernel) rfl ?_
      refine pe_aload_n (j := 0) (by decide +kernel) rfl ?_
      refine pe_get (j := 43) (ci := 4) (n := 4) (by decide +kernel) (by decide +kernel) cd_o23 rfl ?_
      have hr_f_372 := cf_372 hI
      refine pz_icmp_ge (off := 12) (t := 21) (by decide +kernel) (by decide) rfl hz4 rfl (fun h6 => ?_) (fun h6 => ?_)
      · skip
        refine pe_iconstv (n := (-1)) (v := (-1)) (by decide +kernel) (by decide +kernel) ?_
        refine pe_iret (by decide +kernel) rfl rfl ⟨rfl, rfl, ?_⟩
        show pmE pg X pg_tyl pg_cl (d + 5) 32 38 [.ref 23, .retAddr 42, .int x2] [.int (-1)] (cd f A R wr) _
        refine pe_aloadX_n (j := 1) (by decide +kernel) rfl ?_
        refine pe_iload_n (j := 2) (by decide +kernel) rfl ?_
        refine pi_V (j := 187) (mj := 35) (by decide +kernel) (cll_T (args := [.int x2]) (n := 1) (by decide +kernel) rfl rfl (hX 42 (by decide +kernel)) (by decide +kernel) (Nat.le_of_ble_eq_true rfl) (Nat.le_of_ble_eq_true rfl)) ?_
        show pmE pg X pg_tyl pg_cl (d + 4) 35 0 [.retAddr 42, .int x2] [] (cd f A R wr) _
        refine pe_aloadX_n (j := 0) (by decide +kernel) rfl ?_
        refine pi_V (j := 492) (mj := 36) (by decide +kernel) (cll_T (args := []) (n := 0) (by decide +kernel) rfl rfl (hX 42 (by decide +kernel)) (by decide +kernel) (Nat.le_of_ble_eq_true rfl) (Nat.le_of_ble_eq_true rfl)) ?_
        show pmE pg X pg_tyl pg_cl (d + 3) 36 0 [.retAddr 42] [] (cd f A R wr) _
        refine pe_getstatic (j := 38) (v := .int 1) (by decide +kernel) (by decide +kernel) ?_
        refine pz_if_eq (off := 14) (t := 17) (by decide +kernel) (by decide) rfl kz_1 (fun h7 => by omega) (fun h7 => ?_)
        refine pe_aloadX_n (j := 0) (by decide +kernel) rfl ?_
        refine pe_getT0 (k := 15) (by decide +kernel) (hX 42 (by decide +kernel)) (by decide +kernel) ?_
        refine pz_if_ne (off := 7) (t := 17) (by decide +kernel) (by decide) rfl kz_0 (fun h8 => by omega) (fun h8 => ?_)
        refine pe_iconstv (n := 1) (v := 1) (by decide +kernel) (by decide +kernel) ?_
        refine pe_goto (off := 4) (t := 18) (by decide +kernel) (by decide) rfl ?_
        refine pe_iret (by decide +kernel) rfl rfl ⟨rfl, rfl, ?_⟩
        show pmE pg X pg_tyl pg_cl (d + 4) 35 4 [.retAddr 42, .int x2] [.int 1] (cd f A R wr) _
        refine pz_if_eq (off := 12) (t := 16) (by decide +kernel) (by decide) rfl kz_1 (fun h9 => by omega) (fun h9 => ?_)
        refine pe_aloadX_n (j := 0) (by decide +kernel) rfl ?_
        refine pe_getT1 (k := 9) (by decide +kernel) (hX 42 (by decide +kernel)) (by decide +kernel) ?_
        refine pe_iload_n (j := 1) (by decide +kernel) rfl ?_
        refine pi_S (j := 495) (mj := 37) (by decide +kernel) (by decide +kernel) rfl ?_
        show pmE pg X pg_tyl pg_cl (d + 3) 37 0 [.retAddr 43, .int x2] [] (cd f A R wr) _
        refine pe_iload_n (j := 1) (by decide +kernel) rfl ?_
        refine pe_aloadX_n (j := 0) (by decide +kernel) rfl ?_
        refine pe_alenXv (v := 5) (by decide +kernel) (hX 43 (by decide +kernel)) (by decide +kernel) (by decide +kernel) ?_
        refine pi_S (j := 9) (mj := 38) (by decide +kernel) (by decide +kernel) rfl ?_
        show pmE pg X pg_tyl pg_cl (d + 2) 38 0 [.int x2, .int 5] [] (cd f A R wr) _
        refine pe_iload_n (j := 0) (by decide +kernel) rfl ?_
        refine pe_iload_n (j := 1) (by decide +kernel) rfl ?_
        refine pe_getstatic (j := 1053) (v := .retAddr 99) (by decide +kernel) (by decide +kernel) ?_
        refine pi_S (j := 1059) (mj := 39) (by decide +kernel) (by decide +kernel) rfl ?_
        show pmE pg X pg_tyl pg_cl (d + 1) 39 0 [.int x2, .int 5, .retAddr 99] [] (cd f A R wr) _
        refine pe_iload_n (j := 0) (by decide +kernel) rfl ?_
        refine pz_if_lt (off := 8) (t := 9) (by decide +kernel) (by decide) rfl rfl (fun h10 => by omega) (fun h10 => ?_)
        refine pe_iload_n (j := 0) (by decide +kernel) rfl ?_
        refine pe_iload_n (j := 1) (by decide +kernel) rfl ?_
        refine pz_icmp_lt (off := 10) (t := 16) (by decide +kernel) (by decide) rfl rfl kz_5 (fun h11 => ?_) (fun h11 => by omega)
        refine pe_iload_n (j := 0) (by decide +kernel) rfl ?_
        refine pe_iret (by decide +kernel) rfl rfl ⟨rfl, rfl, ?_⟩
        show pmE pg X pg_tyl pg_cl (d + 2) 38 8 [.int x2, .int 5] [.int x2] (cd f A R wr) _
        refine pe_pop (by decide +kernel) rfl ?_
        refine pe_vret (by decide +kernel) rfl ⟨rfl, rfl, ?_⟩
        show pmE pg X pg_tyl pg_cl (d + 3) 37 6 [.retAddr 43, .int x2] [] (cd f A R wr) _
        refine pe_aloadX_n (j := 0) (by decide +kernel) rfl ?_
        refine pe_iload_n (j := 1) (by decide +kernel) rfl ?_
        refine pz_baldX (by decide +kernel) (hX 43 (by decide +kernel)) rfl rfl (by omega) (by omega) (fun v12 ev12 => ?_)
        have rv12 : 0 ≤ v12.toInt ∧ v12.toInt ≤ 115 := by rw [ev12]; exact lt_all (by decide +kernel) (by decide) _
        refine pe_sipushv (n := 255) (v := 255) (by decide +kernel) (by decide +kernel) ?_
        refine pz_and255 (by decide +kernel) (fun z13 hz13 => ?_)
        refine pz_i2c (by decide +kernel) rfl (by omega) (by omega) (fun z14 hz14 => ?_)
        rw [hz14]
        refine pe_iret (by decide +kernel) rfl (nz_c (by omega)) ⟨rfl, rfl, ?_⟩
        show pmE pg X pg_tyl pg_cl (d + 4) 35 15 [.retAddr 42, .int x2] [.int z13] (cd f A R wr) _
        refine pe_iret (by decide +kernel) rfl (nz_c (by omega)) ⟨rfl, rfl, ?_⟩
        show pmE pg X pg_tyl pg_cl (d + 5) 32 43 [.ref 23, .retAddr 42, .int x2] [.int z13, .int (-1)] (cd f A R wr) _
        refine pz_icmp_eq (off := 5) (t := 48) (by decide +kernel) (by decide) rfl kz_m1 rfl (fun h15 => by omega) (fun h15 => ?_)
        refine pe_iconstv (n := 0) (v := 0) (by decide +kernel) (by decide +kernel) ?_
        exact pe_iret (by decide +kernel) rfl rfl kr_0
      · skip
        refine pe_aload_n (j := 0) (by decide +kernel) rfl ?_
        refine pe_get (j := 29) (ci := 4) (n := 3) (by decide +kernel) (by decide +kernel) cd_o23 rfl ?_
        refine pe_topV (v := .ref 4) (hR4) ?_
        refine pe_iload_n (j := 1) (by decide +kernel) rfl ?_
        refine pz_bald (by decide +kernel) cd_a4 (cl_4 hI) hz4 (by omega) (by omega) (fun v16 ev16 => ?_)
        have rv16 : (-128) ≤ v16.toInt ∧ v16.toInt ≤ 127 := ct_4 hI ev16
        refine pe_goto (off := 4) (t := 22) (by decide +kernel) (by decide) rfl ?_
        refine pe_iret (by decide +kernel) rfl rfl ⟨rfl, rfl, ?_⟩
        show pmE pg X pg_tyl pg_cl (d + 5) 32 38 [.ref 23, .retAddr 42, .int x2] [.int v16] (cd f A R wr) _
        refine pe_aloadX_n (j := 1) (by decide +kernel) rfl ?_
        refine pe_iload_n (j := 2) (by decide +kernel) rfl ?_
        refine pi_V (j := 187) (mj := 35) (by decide +kernel) (cll_T (args := [.int x2]) (n := 1) (by decide +kernel) rfl rfl (hX 42 (by decide +kernel)) (by decide +kernel) (Nat.le_of_ble_eq_true rfl) (Nat.le_of_ble_eq_true rfl)) ?_
        show pmE pg X pg_tyl pg_cl (d + 4) 35 0 [.retAddr 42, .int x2] [] (cd f A R wr) _
        refine pe_aloadX_n (j := 0) (by decide +kernel) rfl ?_
        refine pi_V (j := 492) (mj := 36) (by decide +kernel) (cll_T (args := []) (n := 0) (by decide +kernel) rfl rfl (hX 42 (by decide +kernel)) (by decide +kernel) (Nat.le_of_ble_eq_true rfl) (Nat.le_of_ble_eq_true rfl)) ?_
        show pmE pg X pg_tyl pg_cl (d + 3) 36 0 [.retAddr 42] [] (cd f A R wr) _
        refine pe_getstatic (j := 38) (v := .int 1) (by decide +kernel) (by decide +kernel) ?_
        refine pz_if_eq (off := 14) (t := 17) (by decide +kernel) (by decide) rfl kz_1 (fun h17 => by omega) (fun h17 => ?_)
        refine pe_aloadX_n (j := 0) (by decide +kernel) rfl ?_
        refine pe_getT0 (k := 15) (by decide +kernel) (hX 42 (by decide +kernel)) (by decide +kernel) ?_
        refine pz_if_ne (off := 7) (t := 17) (by decide +kernel) (by decide) rfl kz_0 (fun h18 => by omega) (fun h18 => ?_)
        refine pe_iconstv (n := 1) (v := 1) (by decide +kernel) (by decide +kernel) ?_
        refine pe_goto (off := 4) (t := 18) (by decide +kernel) (by decide) rfl ?_
        refine pe_iret (by decide +kernel) rfl rfl ⟨rfl, rfl, ?_⟩
        show pmE pg X pg_tyl pg_cl (d + 4) 35 4 [.retAddr 42, .int x2] [.int 1] (cd f A R wr) _
        refine pz_if_eq (off := 12) (t := 16) (by decide +kernel) (by decide) rfl kz_1 (fun h19 => by omega) (fun h19 => ?_)
        refine pe_aloadX_n (j := 0) (by decide +kernel) rfl ?_
        refine pe_getT1 (k := 9) (by decide +kernel) (hX 42 (by decide +kernel)) (by decide +kernel) ?_
        refine pe_iload_n (j := 1) (by decide +kernel) rfl ?_
        refine pi_S (j := 495) (mj := 37) (by decide +kernel) (by decide +kernel) rfl ?_
        show pmE pg X pg_tyl pg_cl (d + 3) 37 0 [.retAddr 43, .int x2] [] (cd f A R wr) _
        refine pe_iload_n (j := 1) (by decide +kernel) rfl ?_
        refine pe_aloadX_n (j := 0) (by decide +kernel) rfl ?_
        refine pe_alenXv (v := 5) (by decide +kernel) (hX 43 (by decide +kernel)) (by decide +kernel) (by decide +kernel) ?_
        refine pi_S (j := 9) (mj := 38) (by decide +kernel) (by decide +kernel) rfl ?_
        show pmE pg X pg_tyl pg_cl (d + 2) 38 0 [.int x2, .int 5] [] (cd f A R wr) _
        refine pe_iload_n (j := 0) (by decide +kernel) rfl ?_
        refine pe_iload_n (j := 1) (by decide +kernel) rfl ?_
        refine pe_getstatic (j := 1053) (v := .retAddr 99) (by decide +kernel) (by decide +kernel) ?_
        refine pi_S (j := 1059) (mj := 39) (by decide +kernel) (by decide +kernel) rfl ?_
        show pmE pg X pg_tyl pg_cl (d + 1) 39 0 [.int x2, .int 5, .retAddr 99] [] (cd f A R wr) _
        refine pe_iload_n (j := 0) (by decide +kernel) rfl ?_
        refine pz_if_lt (off := 8) (t := 9) (by decide +kernel) (by decide) rfl rfl (fun h20 => by omega) (fun h20 => ?_)
        refine pe_iload_n (j := 0) (by decide +kernel) rfl ?_
        refine pe_iload_n (j := 1) (by decide +kernel) rfl ?_
        refine pz_icmp_lt (off := 10) (t := 16) (by decide +kernel) (by decide) rfl rfl kz_5 (fun h21 => ?_) (fun h21 => by omega)
        refine pe_iload_n (j := 0) (by decide +kernel) rfl ?_
        refine pe_iret (by decide +kernel) rfl rfl ⟨rfl, rfl, ?_⟩
        show pmE pg X pg_tyl pg_cl (d + 2) 38 8 [.int x2, .int 5] [.int x2] (cd f A R wr) _
        refine pe_pop (by decide +kernel) rfl ?_
        refine pe_vret (by decide +kernel) rfl ⟨rfl, rfl, ?_⟩
        show pmE pg X pg_tyl pg_cl (d + 3) 37 6 [.retAddr 43, .int x2] [] (cd f A R wr) _
        refine pe_aloadX_n (j := 0) (by decide +kernel) rfl ?_
        refine pe_iload_n (j := 1) (by decide +kernel) rfl ?_
        refine pz_baldX (by decide +kernel) (hX 43 (by decide +kernel)) rfl rfl (by omega) (by omega) (fun v22 ev22 => ?_)
        have rv22 : 0 ≤ v22.toInt ∧ v22.toInt ≤ 115 := by rw [ev22]; exact lt_all (by decide +kernel) (by decide) _
        refine pe_sipushv (n := 255) (v := 255) (by decide +kernel) (by decide +kernel) ?_
        refine pz_and255 (by decide +kernel) (fun z23 hz23 => ?_)
        refine pz_i2c (by decide +kernel) rfl (by omega) (by omega) (fun z24 hz24 => ?_)
        rw [hz24]
        refine pe_iret (by decide +kernel) rfl (nz_c (by omega)) ⟨rfl, rfl, ?_⟩
        show pmE pg X pg_tyl pg_cl (d + 4) 35 15 [.retAddr 42, .int x2] [.int z23] (cd f A R wr) _
        refine pe_iret (by decide +kernel) rfl (nz_c (by omega)) ⟨rfl, rfl, ?_⟩
        show pmE pg X pg_tyl pg_cl (d + 5) 32 43 [.ref 23, .retAddr 42, .int x2] [.int z23, .int v16] (cd f A R wr) _
        refine pz_icmp_eq (off := 5) (t := 48) (by decide +kernel) (by decide) rfl rfl rfl (fun h25 => ?_) (fun h25 => ?_)
        · skip
          refine pz_iinc (j := 2) (n := 1) (by decide +kernel) rfl rfl (by decide +kernel) (by omega) (by omega) (fun z26 hz26 => ?_)
          show pmE pg X pg_tyl pg_cl (d + 5) 32 51 [.ref 23, .retAddr 42, .int z26] [] (cd f A R wr) _
          refine pe_goto (off := (-31)) (t := 20) (by decide +kernel) (by decide) rfl ?_
          exact ih z26 (by omega) (by omega)
        · skip
          refine pe_iconstv (n := 0) (v := 0) (by decide +kernel) (by decide +kernel) ?_
          exact pe_iret (by decide +kernel) rfl rfl kr_0
set_option maxRecDepth 100000 in
set_option maxHeartbeats 8000000 in
theorem CM_32_11 {X : pm_X} {d : Nat} {wr : pm_W} {f : Nat → Int32} {A : Nat → List Int32} {R : Nat → Value} (hX : XO X) (hI : CI f A R) (hR4 : R 4 = .ref 4) : pmE pg X pg_tyl pg_cl (d + 5) 32 0 (pm_ent (pm_max pg 32) [.ref 23, .retAddr 42]) [] (cd f A R wr) (fun q => ∃ (r : Int32), q = (some (.int r), cd f A R wr, 0, 0) ∧ ((r = 0 ∧ True) ∨ (r = 1 ∧ True))) := by
  show pmE pg X pg_tyl pg_cl (d + 5) 32 0 [.ref 23, .retAddr 42, pm_dead] [] (cd f A R wr) _
  refine pe_aload_n (j := 0) (by decide +kernel) rfl ?_
  refine pe_get (j := 47) (ci := 4) (n := 5) (by decide +kernel) (by decide +kernel) cd_o23 rfl ?_
  have hr_f_373 := cf_373 hI
  refine pe_aload_n (j := 0) (by decide +kernel) rfl ?_
  refine pe_get (j := 69) (ci := 4) (n := 7) (by decide +kernel) (by decide +kernel) cd_o23 rfl ?_
  have hr_f_375 := cf_375 hI
  refine pz_sub (by decide +kernel) rfl rfl (by omega) (by omega) (fun z1 hz1 => ?_)
  refine pe_aloadX_n (j := 1) (by decide +kernel) rfl ?_
  refine pi_V (j := 179) (mj := 33) (by decide +kernel) (cll_T (args := []) (n := 0) (by decide +kernel) rfl rfl (hX 42 (by decide +kernel)) (by decide +kernel) (Nat.le_of_ble_eq_true rfl) (Nat.le_of_ble_eq_true rfl)) ?_
  show pmE pg X pg_tyl pg_cl (d + 4) 33 0 [.retAddr 42] [] (cd f A R wr) _
  refine pe_aloadX_n (j := 0) (by decide +kernel) rfl ?_
  refine pe_getT1 (k := 9) (by decide +kernel) (hX 42 (by decide +kernel)) (by decide +kernel) ?_
  refine pe_alenXv (v := 5) (by decide +kernel) (hX 43 (by decide +kernel)) (by decide +kernel) (by decide +kernel) ?_
  refine pe_aloadX_n (j := 0) (by decide +kernel) rfl ?_
  refine pi_V (j := 335) (mj := 34) (by decide +kernel) (cll_T (args := []) (n := 0) (by decide +kernel) rfl rfl (hX 42 (by decide +kernel)) (by decide +kernel) (Nat.le_of_ble_eq_true rfl) (Nat.le_of_ble_eq_true rfl)) ?_
  show pmE pg X pg_tyl pg_cl (d + 3) 34 0 [.retAddr 42] [] (cd f A R wr) _
  refine pe_getstatic (j := 38) (v := .int 1) (by decide +kernel) (by decide +kernel) ?_
  refine pz_if_eq (off := 10) (t := 13) (by decide +kernel) (by decide) rfl kz_1 (fun h2 => by omega) (fun h2 => ?_)
  refine pe_aloadX_n (j := 0) (by decide +kernel) rfl ?_
  refine pe_getT0 (k := 15) (by decide +kernel) (hX 42 (by decide +kernel)) (by decide +kernel) ?_
  refine pe_goto (off := 4) (t := 14) (by decide +kernel) (by decide) rfl ?_
  refine pe_iret (by decide +kernel) rfl (by decide +kernel) ⟨rfl, rfl, ?_⟩
  show pmE pg X pg_tyl pg_cl (d + 4) 33 9 [.retAddr 42] [.int 0, .int 5] (cd f A R wr) _
  refine pe_ishr (by decide +kernel) ?_
  refine pe_top (v := 5) (by decide +kernel) ?_
  refine pe_iret (by decide +kernel) rfl rfl ⟨rfl, rfl, ?_⟩
  show pmE pg X pg_tyl pg_cl (d + 5) 32 13 [.ref 23, .retAddr 42, pm_dead] [.int 5, .int z1] (cd f A R wr) _
  refine pz_icmp_eq (off := 5) (t := 18) (by decide +kernel) (by decide) rfl hz1 kz_5 (fun h4 => ?_) (fun h4 => ?_)
  · skip
    clear hz1
    refine pe_iconstv (n := 0) (v := 0) (by decide +kernel) (by decide +kernel) ?_
    refine pe_istore_n (j := 2) (ls' := [.ref 23, .retAddr 42, .int 0]) (by decide +kernel) (Nat.le_of_ble_eq_true rfl) rfl ?_
    refine CL_32_11_20 hX hI (hR4) (fun y5 gy5 => ?_) (⟨0, rfl, Or.inl ⟨rfl, trivial⟩⟩) 6 0 (by decide +kernel) (by decide +kernel)
    refine pe_iconstv (n := 1) (v := 1) (by decide +kernel) (by decide +kernel) ?_
    exact pe_iret (by decide +kernel) rfl rfl ⟨1, rfl, Or.inr (⟨rfl, trivial⟩)⟩
  · skip
    clear hz1
    refine pe_iconstv (n := 0) (v := 0) (by decide +kernel) (by decide +kernel) ?_
    exact pe_iret (by decide +kernel) rfl rfl ⟨0, rfl, Or.inl ⟨rfl, trivial⟩⟩
set_option maxRecDepth 100000 in
set_option maxHeartbeats 8000000 in
theorem CL_32_12_20 {X : pm_X} {d : Nat} {wr : pm_W} {Q : pm_R → Prop} {f : Nat → Int32} {A : Nat → List Int32} {R : Nat → Value} (hX : XO X) (hI : CI f A R) (hR4 : R 4 = .ref 4) (k_54_0 : ∀ (y2 : Int32), (4 ≤ y2.toInt ∧ y2.toInt ≤ 4) → pmE pg X pg_tyl pg_cl (d + 5) 32 54 [.ref 23, .retAddr 44, .int y2] [] (cd f A R wr) Q) (kr_0 : Q (some (.int 0), cd f A R wr, 0, 0)) : ∀ (m : Nat) (x2 : Int32), (0 ≤ x2.toInt ∧ x2.toInt ≤ 4) → 4 - x2.toInt < (m : Int) → pmE pg X pg_tyl pg_cl (d + 5) 32 20 [.ref 23, .retAddr 44, .int x2] [] (cd f A R wr) Q := by
  intro m
  induction m with
  | zero =>
    intro x2 gx2 hm
    exfalso
    have l0 := zi_lo x2
    have u0 := zi_hi x2
    omega
  | succ m ih =>
    intro x2 gx2 hm
    refine pe_iload_n (j := 2) (by decide +kernel) rfl ?_
    refine pe_aloadX_n (j := 1) (by decide +kernel) rfl ?_
    refine pi_V (j := 179) (mj := 33) (by decide +kernel) (cll_T (args := []) (n := 0) (by decide +kernel) rfl rfl (hX 44 (by decide +kernel)) (by decide +kernel) (Nat.le_of_ble_eq_true rfl) (Nat.le_of_ble_eq_true rfl)) ?_
    show pmE pg X pg_tyl pg_cl (d + 4) 33 0 [.retAddr 44] [] (cd f A R wr) _
    refine pe_aloadX_n (j := 0) (by decide +kernel) rfl ?_
    refine pe_getT1 (k := 9) (by decide +kernel) (hX 44 (by decide +kernel)) (by decide +kernel) ?_
    refine pe_alenXv (v := 4) (by decide +kernel) (hX 45 (by decide +kernel)) (by decide +kernel) (by decide +kernel) ?_
    refine pe_aloadX_n (j := 0) (by decide +kernel) rfl ?_
    refine pi_V (j := 335) (mj := 34) (by decide +kernel) (cll_T (args := []) (n := 0) (by decide +kernel) rfl rfl (hX 44 (by decide +kernel)) (by decide +kernel) (Nat.le_of_ble_eq_true rfl) (Nat.le_of_ble_eq_true rfl)) ?_
    show pmE pg X pg_tyl pg_cl (d + 3) 34 0 [.retAddr 44] [] (cd f A R wr) _
    refine pe_getstatic (j := 38) (v := .int 1) (by decide +kernel) (by decide +kernel) ?_
    refine pz_if_eq (off := 10) (t := 13) (by decide +kernel) (by decide) rfl kz_1 (fun h1 => by omega) (fun h1 => ?_)
    refine pe_aloadX_n (j := 0) (by decide +kernel) rfl ?_
    refine pe_getT0 (k := 15) (by decide +kernel) (hX 44 (by decide +kernel)) (by decide +kernel) ?_
    refine pe_goto (off := 4) (t := 14) (by decide +kernel) (by decide) rfl ?_
    refine pe_iret (by decide +kernel) rfl (by decide +kernel) ⟨rfl, rfl, ?_⟩
    show pmE pg X pg_tyl pg_cl (d + 4) 33 9 [.retAddr 44] [.int 0, .int 4] (cd f A R wr) _
    refine pe_ishr (by decide +kernel) ?_
    refine pe_top (v := 4) (by decide +kernel) ?_
    refine pe_iret (by decide +kernel) rfl rfl ⟨rfl, rfl, ?_⟩
    show pmE pg X pg_tyl pg_cl (d + 5) 32 25 [.ref 23, .retAddr 44, .int x2] [.int 4, .int x2] (cd f A R wr) _
    refine pz_icmp_ge (off := 29) (t := 54) (by decide +kernel) (by decide) rfl rfl kz_4 (fun h3 => ?_) (fun h3 => ?_)
    · skip
      exact k_54_0 x2 (by omega)
    · skip
      refine pe_aload_n (j := 0) (by decide +kernel) rfl ?_
      refine pe_aload_n (j := 0) (by decide +kernel) rfl ?_
      refine pe_get (j := 69) (ci := 4) (n := 7) (by decide +kernel) (by decide +kernel) cd_o23 rfl ?_
      have hr_f_375 := cf_375 hI
      refine pe_iload_n (j := 2) (by decide +kernel) rfl ?_
      refine pz_add (by decide +kernel) rfl rfl (by omega) (by omega) (fun z4 hz4 => ?_)
      refine pi_V (j := 184) (mj := 24) (by decide +kernel) (cll_V (args := [.int z4]) (n := 1) (by decide +kernel) rfl rfl cd_o23 (by decide +kernel) (Nat.le_of_ble_eq_true rfl) (Nat.le_of_ble_eq_true rfl)) ?_
      show pmE pg X pg_tyl pg_cl (d + 4) 24 0 [.ref 23, .int z4] [] (cd f A R wr) _
      refine pe_iload_n (j := 1) (by decide +kernel) rfl ?_
      refine pz_if_lt (off := 20) (t := 21) (by decide +kernel) (by decide) rfl hz4 (fun h5 => by omega) (fun h5 => ?_)
      refine pe_iload_n (j := 1) (by decide +kernel) rfl ?_
      refine pe_aload_n (j := 0) (by decide +kernel) rfl ?_
      refine pe_get (j := 43) (ci := 4) (n := 4) (by decide +kernel) (by decide +kernel) cd_o23 rfl ?_
      have hr_f_372 := cf_372 hI
      refine pz_icmp_ge (off := 12) (t := 21) (by decide +kernel) (by decide) rfl hz4 rfl (fun h6 => ?_) (fun h6 => ?_)
      · skip
        refine pe_iconstv (n := (-1)) (v := (-1)) (by decide +kernel) (by decide +kernel) ?_
        refine pe_iret (by decide +kernel) rfl rfl ⟨rfl, rfl, ?_⟩
        show pmE pg X pg_tyl pg_cl (d + 5) 32 38 [.ref 23, .retAddr 44, .int x2] [.int (-1)] (cd f A R wr) _
        refine pe_aloadX_n (j := 1) (by decide +kernel) rfl ?_
        refine pe_iload_n (j := 2) (by decide +kernel) rfl ?_
        refine pi_V (j := 187) (mj := 35) (by decide +kernel) (cll_T (args := [.int x2]) (n := 1) (by decide +kernel) rfl rfl (hX 44 (by decide +kernel)) (by decide +kernel) (Nat.le_of_ble_eq_true rfl) (Nat.le_of_ble_eq_true rfl)) ?_
        show pmE pg X pg_tyl pg_cl (d + 4) 35 0 [.retAddr 44, .int x2] [] (cd f A R wr) _
        refine pe_aloadX_n (j := 0) (by decide +kernel) rfl ?_
        refine pi_V (j := 492) (mj := 36) (by decide +kernel) (cll_T (args := []) (n := 0) (by decide +kernel) rfl rfl (hX 44 (by decide +kernel)) (by decide +kernel) (Nat.le_of_ble_eq_true rfl) (Nat.le_of_ble_eq_true rfl)) ?_
        show pmE pg X pg_tyl pg_cl (d + 3) 36 0 [.retAddr 44] [] (cd f A R wr) _
        refine pe_getstatic (j := 38) (v := .int 1) (by decide +kernel) (by decide +kernel) ?_
        refine pz_if_eq (off := 14) (t := 17) (by decide +kernel) (by decide) rfl kz_1 (fun h7 => by omega) (fun h7 => ?_)
        refine pe_aloadX_n (j := 0) (by decide +kernel) rfl ?_
        refine pe_getT0 (k := 15) (by decide +kernel) (hX 44 (by decide +kernel)) (by decide +kernel) ?_
        refine pz_if_ne (off := 7) (t := 17) (by decide +kernel) (by decide) rfl kz_0 (fun h8 => by omega) (fun h8 => ?_)
        refine pe_iconstv (n := 1) (v := 1) (by decide +kernel) (by decide +kernel) ?_
        refine pe_goto (off := 4) (t := 18) (by decide +kernel) (by decide) rfl ?_
        refine pe_iret (by decide +kernel) rfl rfl ⟨rfl, rfl, ?_⟩
        show pmE pg X pg_tyl pg_cl (d + 4) 35 4 [.retAddr 44, .int x2] [.int 1] (cd f A R wr) _
        refine pz_if_eq (off := 12) (t := 16) (by decide +kernel) (by decide) rfl kz_1 (fun h9 => by omega) (fun h9 => ?_)
        refine pe_aloadX_n (j := 0) (by decide +kernel) rfl ?_
        refine pe_getT1 (k := 9) (by decide +kernel) (hX 44 (by decide +kernel)) (by decide +kernel) ?_
        refine pe_iload_n (j := 1) (by decide +kernel) rfl ?_
        refine pi_S (j := 495) (mj := 37) (by decide +kernel) (by decide +kernel) rfl ?_
        show pmE pg X pg_tyl pg_cl (d + 3) 37 0 [.retAddr 45, .int x2] [] (cd f A R wr) _
        refine pe_iload_n (j := 1) (by decide +kernel) rfl ?_
        refine pe_aloadX_n (j := 0) (by decide +kernel) rfl ?_
        refine pe_alenXv (v := 4) (by decide +kernel) (hX 45 (by decide +kernel)) (by decide +kernel) (by decide +kernel) ?_
        refine pi_S (j := 9) (mj := 38) (by decide +kernel) (by decide +kernel) rfl ?_
        show pmE pg X pg_tyl pg_cl (d + 2) 38 0 [.int x2, .int 4] [] (cd f A R wr) _
        refine pe_iload_n (j := 0) (by decide +kernel) rfl ?_
        refine pe_iload_n (j := 1) (by decide +kernel) rfl ?_
        refine pe_getstatic (j := 1053) (v := .retAddr 99) (by decide +kernel) (by decide +kernel) ?_
        refine pi_S (j := 1059) (mj := 39) (by decide +kernel) (by decide +kernel) rfl ?_
        show pmE pg X pg_tyl pg_cl (d + 1) 39 0 [.int x2, .int 4, .retAddr 99] [] (cd f A R wr) _
        refine pe_iload_n (j := 0) (by decide +kernel) rfl ?_
        refine pz_if_lt (off := 8) (t := 9) (by decide +kernel) (by decide) rfl rfl (fun h10 => by omega) (fun h10 => ?_)
        refine pe_iload_n (j := 0) (by decide +kernel) rfl ?_
        refine pe_iload_n (j := 1) (by decide +kernel) rfl ?_
        refine pz_icmp_lt (off := 10) (t := 16) (by decide +kernel) (by decide) rfl rfl kz_4 (fun h11 => ?_) (fun h11 => by omega)
        refine pe_iload_n (j := 0) (by decide +kernel) rfl ?_
        refine pe_iret (by decide +kernel) rfl rfl ⟨rfl, rfl, ?_⟩
        show pmE pg X pg_tyl pg_cl (d + 2) 38 8 [.int x2, .int 4] [.int x2] (cd f A R wr) _
        refine pe_pop (by decide +kernel) rfl ?_
        refine pe_vret (by decide +kernel) rfl ⟨rfl, rfl, ?_⟩
        show pmE pg X pg_tyl pg_cl (d + 3) 37 6 [.retAddr 45, .int x2] [] (cd f A R wr) _
        refine pe_aloadX_n (j := 0) (by decide +kernel) rfl ?_
        refine pe_iload_n (j := 1) (by decide +kernel) rfl ?_
        refine pz_baldX (by decide +kernel) (hX 45 (by decide +kernel)) rfl rfl (by omega) (by omega) (fun v12 ev12 => ?_)
        have rv12 : 0 ≤ v12.toInt ∧ v12.toInt ≤ 119 := by rw [ev12]; exact lt_all (by decide +kernel) (by decide) _
        refine pe_sipushv (n := 255) (v := 255) (by decide +kernel) (by decide +kernel) ?_
        refine pz_and255 (by decide +kernel) (fun z13 hz13 => ?_)
        refine pz_i2c (by decide +kernel) rfl (by omega) (by omega) (fun z14 hz14 => ?_)
        rw [hz14]
        refine pe_iret (by decide +kernel) rfl (nz_c (by omega)) ⟨rfl, rfl, ?_⟩
        show pmE pg X pg_tyl pg_cl (d + 4) 35 15 [.retAddr 44, .int x2] [.int z13] (cd f A R wr) _
        refine pe_iret (by decide +kernel) rfl (nz_c (by omega)) ⟨rfl, rfl, ?_⟩
        show pmE pg X pg_tyl pg_cl (d + 5) 32 43 [.ref 23, .retAddr 44, .int x2] [.int z13, .int (-1)] (cd f A R wr) _
        refine pz_icmp_eq (off := 5) (t := 48) (by decide +kernel) (by decide) rfl kz_m1 rfl (fun h15 => by omega) (fun h15 => ?_)
        refine pe_iconstv (n := 0) (v := 0) (by decide +kernel) (by decide +kernel) ?_
        exact pe_iret (by decide +kernel) rfl rfl kr_0
      · skip
        refine pe_aload_n (j := 0) (by decide +kernel) rfl ?_
        refine pe_get (j := 29) (ci := 4) (n := 3) (by decide +kernel) (by decide +kernel) cd_o23 rfl ?_
        refine pe_topV (v := .ref 4) (hR4) ?_
        refine pe_iload_n (j := 1) (by decide +kernel) rfl ?_
        refine pz_bald (by decide +kernel) cd_a4 (cl_4 hI) hz4 (by omega) (by omega) (fun v16 ev16 => ?_)
        have rv16 : (-128) ≤ v16.toInt ∧ v16.toInt ≤ 127 := ct_4 hI ev16
        refine pe_goto (off := 4) (t := 22) (by decide +kernel) (by decide) rfl ?_
        refine pe_iret (by decide +kernel) rfl rfl ⟨rfl, rfl, ?_⟩
        show pmE pg X pg_tyl pg_cl (d + 5) 32 38 [.ref 23, .retAddr 44, .int x2] [.int v16] (cd f A R wr) _
        refine pe_aloadX_n (j := 1) (by decide +kernel) rfl ?_
        refine pe_iload_n (j := 2) (by decide +kernel) rfl ?_
        refine pi_V (j := 187) (mj := 35) (by decide +kernel) (cll_T (args := [.int x2]) (n := 1) (by decide +kernel) rfl rfl (hX 44 (by decide +kernel)) (by decide +kernel) (Nat.le_of_ble_eq_true rfl) (Nat.le_of_ble_eq_true rfl)) ?_
        show pmE pg X pg_tyl pg_cl (d + 4) 35 0 [.retAddr 44, .int x2] [] (cd f A R wr) _
        refine pe_aloadX_n (j := 0) (by decide +kernel) rfl ?_
        refine pi_V (j := 492) (mj := 36) (by decide +kernel) (cll_T (args := []) (n := 0) (by decide +kernel) rfl rfl (hX 44 (by decide +kernel)) (by decide +kernel) (Nat.le_of_ble_eq_true rfl) (Nat.le_of_ble_eq_true rfl)) ?_
        show pmE pg X pg_tyl pg_cl (d + 3) 36 0 [.retAddr 44] [] (cd f A R wr) _
        refine pe_getstatic (j := 38) (v := .int 1) (by decide +kernel) (by decide +kernel) ?_
        refine pz_if_eq (off := 14) (t := 17) (by decide +kernel) (by decide) rfl kz_1 (fun h17 => by omega) (fun h17 => ?_)
        refine pe_aloadX_n (j := 0) (by decide +kernel) rfl ?_
        refine pe_getT0 (k := 15) (by decide +kernel) (hX 44 (by decide +kernel)) (by decide +kernel) ?_
        refine pz_if_ne (off := 7) (t := 17) (by decide +kernel) (by decide) rfl kz_0 (fun h18 => by omega) (fun h18 => ?_)
        refine pe_iconstv (n := 1) (v := 1) (by decide +kernel) (by decide +kernel) ?_
        refine pe_goto (off := 4) (t := 18) (by decide +kernel) (by decide) rfl ?_
        refine pe_iret (by decide +kernel) rfl rfl ⟨rfl, rfl, ?_⟩
        show pmE pg X pg_tyl pg_cl (d + 4) 35 4 [.retAddr 44, .int x2] [.int 1] (cd f A R wr) _
        refine pz_if_eq (off := 12) (t := 16) (by decide +kernel) (by decide) rfl kz_1 (fun h19 => by omega) (fun h19 => ?_)
        refine pe_aloadX_n (j := 0) (by decide +kernel) rfl ?_
        refine pe_getT1 (k := 9) (by decide +kernel) (hX 44 (by decide +kernel)) (by decide +kernel) ?_
        refine pe_iload_n (j := 1) (by decide +kernel) rfl ?_
        refine pi_S (j := 495) (mj := 37) (by decide +kernel) (by decide +kernel) rfl ?_
        show pmE pg X pg_tyl pg_cl (d + 3) 37 0 [.retAddr 45, .int x2] [] (cd f A R wr) _
        refine pe_iload_n (j := 1) (by decide +kernel) rfl ?_
        refine pe_aloadX_n (j := 0) (by decide +kernel) rfl ?_
        refine pe_alenXv (v := 4) (by decide +kernel) (hX 45 (by decide +kernel)) (by decide +kernel) (by decide +kernel) ?_
        refine pi_S (j := 9) (mj := 38) (by decide +kernel) (by decide +kernel) rfl ?_
        show pmE pg X pg_tyl pg_cl (d + 2) 38 0 [.int x2, .int 4] [] (cd f A R wr) _
        refine pe_iload_n (j := 0) (by decide +kernel) rfl ?_
        refine pe_iload_n (j := 1) (by decide +kernel) rfl ?_
        refine pe_getstatic (j := 1053) (v := .retAddr 99) (by decide +kernel) (by decide +kernel) ?_
        refine pi_S (j := 1059) (mj := 39) (by decide +kernel) (by decide +kernel) rfl ?_
        show pmE pg X pg_tyl pg_cl (d + 1) 39 0 [.int x2, .int 4, .retAddr 99] [] (cd f A R wr) _
        refine pe_iload_n (j := 0) (by decide +kernel) rfl ?_
        refine pz_if_lt (off := 8) (t := 9) (by decide +kernel) (by decide) rfl rfl (fun h20 => by omega) (fun h20 => ?_)
        refine pe_iload_n (j := 0) (by decide +kernel) rfl ?_
        refine pe_iload_n (j := 1) (by decide +kernel) rfl ?_
        refine pz_icmp_lt (off := 10) (t := 16) (by decide +kernel) (by decide) rfl rfl kz_4 (fun h21 => ?_) (fun h21 => by omega)
        refine pe_iload_n (j := 0) (by decide +kernel) rfl ?_
        refine pe_iret (by decide +kernel) rfl rfl ⟨rfl, rfl, ?_⟩
        show pmE pg X pg_tyl pg_cl (d + 2) 38 8 [.int x2, .int 4] [.int x2] (cd f A R wr) _
        refine pe_pop (by decide +kernel) rfl ?_
        refine pe_vret (by decide +kernel) rfl ⟨rfl, rfl, ?_⟩
        show pmE pg X pg_tyl pg_cl (d + 3) 37 6 [.retAddr 45, .int x2] [] (cd f A R wr) _
        refine pe_aloadX_n (j := 0) (by decide +kernel) rfl ?_
        refine pe_iload_n (j := 1) (by decide +kernel) rfl ?_
        refine pz_baldX (by decide +kernel) (hX 45 (by decide +kernel)) rfl rfl (by omega) (by omega) (fun v22 ev22 => ?_)
        have rv22 : 0 ≤ v22.toInt ∧ v22.toInt ≤ 119 := by rw [ev22]; exact lt_all (by decide +kernel) (by decide) _
        refine pe_sipushv (n := 255) (v := 255) (by decide +kernel) (by decide +kernel) ?_
        refine pz_and255 (by decide +kernel) (fun z23 hz23 => ?_)
        refine pz_i2c (by decide +kernel) rfl (by omega) (by omega) (fun z24 hz24 => ?_)
        rw [hz24]
        refine pe_iret (by decide +kernel) rfl (nz_c (by omega)) ⟨rfl, rfl, ?_⟩
        show pmE pg X pg_tyl pg_cl (d + 4) 35 15 [.retAddr 44, .int x2] [.int z23] (cd f A R wr) _
        refine pe_iret (by decide +kernel) rfl (nz_c (by omega)) ⟨rfl, rfl, ?_⟩
        show pmE pg X pg_tyl pg_cl (d + 5) 32 43 [.ref 23, .retAddr 44, .int x2] [.int z23, .int v16] (cd f A R wr) _
        refine pz_icmp_eq (off := 5) (t := 48) (by decide +kernel) (by decide) rfl rfl rfl (fun h25 => ?_) (fun h25 => ?_)
        · skip
          refine pz_iinc (j := 2) (n := 1) (by decide +kernel) rfl rfl (by decide +kernel) (by omega) (by omega) (fun z26 hz26 => ?_)
          show pmE pg X pg_tyl pg_cl (d + 5) 32 51 [.ref 23, .retAddr 44, .int z26] [] (cd f A R wr) _
          refine pe_goto (off := (-31)) (t := 20) (by decide +kernel) (by decide) rfl ?_
          exact ih z26 (by omega) (by omega)
        · skip
          refine pe_iconstv (n := 0) (v := 0) (by decide +kernel) (by decide +kernel) ?_
          exact pe_iret (by decide +kernel) rfl rfl kr_0
set_option maxRecDepth 100000 in
set_option maxHeartbeats 8000000 in
theorem CM_32_12 {X : pm_X} {d : Nat} {wr : pm_W} {f : Nat → Int32} {A : Nat → List Int32} {R : Nat → Value} (hX : XO X) (hI : CI f A R) (hR4 : R 4 = .ref 4) : pmE pg X pg_tyl pg_cl (d + 5) 32 0 (pm_ent (pm_max pg 32) [.ref 23, .retAddr 44]) [] (cd f A R wr) (fun q => ∃ (r : Int32), q = (some (.int r), cd f A R wr, 0, 0) ∧ ((r = 0 ∧ True) ∨ (r = 1 ∧ True))) := by
  show pmE pg X pg_tyl pg_cl (d + 5) 32 0 [.ref 23, .retAddr 44, pm_dead] [] (cd f A R wr) _
  refine pe_aload_n (j := 0) (by decide +kernel) rfl ?_
  refine pe_get (j := 47) (ci := 4) (n := 5) (by decide +kernel) (by decide +kernel) cd_o23 rfl ?_
  have hr_f_373 := cf_373 hI
  refine pe_aload_n (j := 0) (by decide +kernel) rfl ?_
  refine pe_get (j := 69) (ci := 4) (n := 7) (by decide +kernel) (by decide +kernel) cd_o23 rfl ?_
  have hr_f_375 := cf_375 hI
  refine pz_sub (by decide +kernel) rfl rfl (by omega) (by omega) (fun z1 hz1 => ?_)
  refine pe_aloadX_n (j := 1) (by decide +kernel) rfl ?_
  refine pi_V (j := 179) (mj := 33) (by decide +kernel) (cll_T (args := []) (n := 0) (by decide +kernel) rfl rfl (hX 44 (by decide +kernel)) (by decide +kernel) (Nat.le_of_ble_eq_true rfl) (Nat.le_of_ble_eq_true rfl)) ?_
  show pmE pg X pg_tyl pg_cl (d + 4) 33 0 [.retAddr 44] [] (cd f A R wr) _
  refine pe_aloadX_n (j := 0) (by decide +kernel) rfl ?_
  refine pe_getT1 (k := 9) (by decide +kernel) (hX 44 (by decide +kernel)) (by decide +kernel) ?_
  refine pe_alenXv (v := 4) (by decide +kernel) (hX 45 (by decide +kernel)) (by decide +kernel) (by decide +kernel) ?_
  refine pe_aloadX_n (j := 0) (by decide +kernel) rfl ?_
  refine pi_V (j := 335) (mj := 34) (by decide +kernel) (cll_T (args := []) (n := 0) (by decide +kernel) rfl rfl (hX 44 (by decide +kernel)) (by decide +kernel) (Nat.le_of_ble_eq_true rfl) (Nat.le_of_ble_eq_true rfl)) ?_
  show pmE pg X pg_tyl pg_cl (d + 3) 34 0 [.retAddr 44] [] (cd f A R wr) _
  refine pe_getstatic (j := 38) (v := .int 1) (by decide +kernel) (by decide +kernel) ?_
  refine pz_if_eq (off := 10) (t := 13) (by decide +kernel) (by decide) rfl kz_1 (fun h2 => by omega) (fun h2 => ?_)
  refine pe_aloadX_n (j := 0) (by decide +kernel) rfl ?_
  refine pe_getT0 (k := 15) (by decide +kernel) (hX 44 (by decide +kernel)) (by decide +kernel) ?_
  refine pe_goto (off := 4) (t := 14) (by decide +kernel) (by decide) rfl ?_
  refine pe_iret (by decide +kernel) rfl (by decide +kernel) ⟨rfl, rfl, ?_⟩
  show pmE pg X pg_tyl pg_cl (d + 4) 33 9 [.retAddr 44] [.int 0, .int 4] (cd f A R wr) _
  refine pe_ishr (by decide +kernel) ?_
  refine pe_top (v := 4) (by decide +kernel) ?_
  refine pe_iret (by decide +kernel) rfl rfl ⟨rfl, rfl, ?_⟩
  show pmE pg X pg_tyl pg_cl (d + 5) 32 13 [.ref 23, .retAddr 44, pm_dead] [.int 4, .int z1] (cd f A R wr) _
  refine pz_icmp_eq (off := 5) (t := 18) (by decide +kernel) (by decide) rfl hz1 kz_4 (fun h4 => ?_) (fun h4 => ?_)
  · skip
    clear hz1
    refine pe_iconstv (n := 0) (v := 0) (by decide +kernel) (by decide +kernel) ?_
    refine pe_istore_n (j := 2) (ls' := [.ref 23, .retAddr 44, .int 0]) (by decide +kernel) (Nat.le_of_ble_eq_true rfl) rfl ?_
    refine CL_32_12_20 hX hI (hR4) (fun y5 gy5 => ?_) (⟨0, rfl, Or.inl ⟨rfl, trivial⟩⟩) 5 0 (by decide +kernel) (by decide +kernel)
    refine pe_iconstv (n := 1) (v := 1) (by decide +kernel) (by decide +kernel) ?_
    exact pe_iret (by decide +kernel) rfl rfl ⟨1, rfl, Or.inr (⟨rfl, trivial⟩)⟩
  · skip
    clear hz1
    refine pe_iconstv (n := 0) (v := 0) (by decide +kernel) (by decide +kernel) ?_
    exact pe_iret (by decide +kernel) rfl rfl ⟨0, rfl, Or.inl ⟨rfl, trivial⟩⟩
set_option maxRecDepth 100000 in
set_option maxHeartbeats 8000000 in
theorem CL_30_36 {X : pm_X} {d : Nat} {wr : pm_W} {Q : pm_R → Prop} {f : Nat → Int32} {A : Nat → List Int32} {R : Nat → Value} (hX : XO X) (hI : CI f A R) (hR4 : R 4 = .ref 4) (k_63_0 : ∀ (y4 : Int32), (13 ≤ y4.toInt ∧ y4.toInt ≤ 13) → pmE pg X pg_tyl pg_cl (d + 6) 30 63 [.ref 23, .int 0, .int 6, .int 13, .int y4] [] (cd f A R wr) Q) (kr_v : ∀ (r : Int32), (6 ≤ r.toInt ∧ r.toInt ≤ 12) → Q (some (.int r), cd f A R wr, 0, 0)) : ∀ (m : Nat) (x4 : Int32), (6 ≤ x4.toInt ∧ x4.toInt ≤ 13) → 13 - x4.toInt < (m : Int) → pmE pg X pg_tyl pg_cl (d + 6) 30 36 [.ref 23, .int 0, .int 6, .int 13, .int x4] [] (cd f A R wr) Q := by
  intro m
  induction m with
  | zero =>
    intro x4 gx4 hm
    exfalso
    have l0 := zi_lo x4
    have u0 := zi_hi x4
    omega
  | succ m ih =>
    intro x4 gx4 hm
    refine pe_iload (j := 4) (by decide +kernel) rfl ?_
    refine pe_iload_n (j := 3) (by decide +kernel) rfl ?_
    refine pz_icmp_ge (off := 24) (t := 63) (by decide +kernel) (by decide) rfl rfl kz_13 (fun h1 => ?_) (fun h1 => ?_)
    · skip
      exact k_63_0 x4 (by omega)
    · skip
      refine pe_aload_n (j := 0) (by decide +kernel) rfl ?_
      refine pe_iload (j := 4) (by decide +kernel) rfl ?_
      refine pi_S (j := 147) (mj := 31) (by decide +kernel) (by decide +kernel) rfl ?_
      show pmE pg X pg_tyl pg_cl (d + 5) 31 0 [.int x4] [] (cd f A R wr) _
      refine pe_iload_n (j := 0) (by decide +kernel) rfl ?_
      by_cases h8 : x4.toInt = 6
      · skip
        refine pe_tableIn (df := 99) (lo := 0) (hi := 11) (off := 81) (offs := #[63, 66, 69, 72, 75, 78, 81, 84, 87, 90, 93, 96]) (t := 82) (by decide +kernel) (by omega) (by rw [h8]; rfl) (by decide) rfl ?_
        refine pe_ldcS (j := 167) (q := 32) (by decide +kernel) (by decide +kernel) (by decide +kernel) ?_
        refine pe_xret (by decide +kernel) rfl ⟨rfl, rfl, ?_⟩
        show pmE pg X pg_tyl pg_cl (d + 6) 30 48 [.ref 23, .int 0, .int 6, .int 13, .int x4] [.retAddr 32, .ref 23] (cd f A R wr) _
        refine pz_callV (j := 151) (mj := 32) (by decide +kernel) (cll_V (args := [.retAddr 32]) (n := 1) (by decide +kernel) rfl rfl cd_o23 (by decide +kernel) (Nat.le_of_ble_eq_true rfl) (Nat.le_of_ble_eq_true rfl)) (CM_32_6 hX hI (hR4)) (fun q9a q9b q9c q9d hqq9 => ?_)
        obtain ⟨rq9, eq9, kq9⟩ := hqq9
        cases eq9
        refine ⟨rfl, rfl, ?_⟩
        rcases kq9 with kq9 | kq9
        · skip
          obtain ⟨erq9, kq9⟩ := kq9
          subst erq9
          show pmE pg X pg_tyl pg_cl (d + 6) 30 51 [.ref 23, .int 0, .int 6, .int 13, .int x4] [.int 0] (cd f A R wr) _
          refine pz_if_eq (off := 6) (t := 57) (by decide +kernel) (by decide) rfl kz_0 (fun h10 => ?_) (fun h10 => by omega)
          refine pz_iinc (j := 4) (n := 1) (by decide +kernel) rfl rfl (by decide +kernel) (by omega) (by omega) (fun z11 hz11 => ?_)
          show pmE pg X pg_tyl pg_cl (d + 6) 30 60 [.ref 23, .int 0, .int 6, .int 13, .int z11] [] (cd f A R wr) _
          refine pe_goto (off := (-24)) (t := 36) (by decide +kernel) (by decide) rfl ?_
          exact ih z11 (by omega) (by omega)
        · skip
          obtain ⟨erq9, kq9⟩ := kq9
          subst erq9
          show pmE pg X pg_tyl pg_cl (d + 6) 30 51 [.ref 23, .int 0, .int 6, .int 13, .int x4] [.int 1] (cd f A R wr) _
          refine pz_if_eq (off := 6) (t := 57) (by decide +kernel) (by decide) rfl kz_1 (fun h12 => by omega) (fun h12 => ?_)
          refine pe_iload (j := 4) (by decide +kernel) rfl ?_
          exact pe_iret (by decide +kernel) rfl rfl (kr_v x4 (by omega))
      · skip
        by_cases h13 : x4.toInt = 7
        · skip
          refine pe_tableIn (df := 99) (lo := 0) (hi := 11) (off := 84) (offs := #[63, 66, 69, 72, 75, 78, 81, 84, 87, 90, 93, 96]) (t := 85) (by decide +kernel) (by omega) (by rw [h13]; rfl) (by decide) rfl ?_
          refine pe_ldcS (j := 168) (q := 34) (by decide +kernel) (by decide +kernel) (by decide +kernel) ?_
          refine pe_xret (by decide +kernel) rfl ⟨rfl, rfl, ?_⟩
          show pmE pg X pg_tyl pg_cl (d + 6) 30 48 [.ref 23, .int 0, .int 6, .int 13, .int x4] [.retAddr 34, .ref 23] (cd f A R wr) _
          refine pz_callV (j := 151) (mj := 32) (by decide +kernel) (cll_V (args := [.retAddr 34]) (n := 1) (by decide +kernel) rfl rfl cd_o23 (by decide +kernel) (Nat.le_of_ble_eq_true rfl) (Nat.le_of_ble_eq_true rfl)) (CM_32_7 hX hI (hR4)) (fun q14a q14b q14c q14d hqq14 => ?_)
          obtain ⟨rq14, eq14, kq14⟩ := hqq14
          cases eq14
          refine ⟨rfl, rfl, ?_⟩
          rcases kq14 with kq14 | kq14
          · skip
            obtain ⟨erq14, kq14⟩ := kq14
            subst erq14
            show pmE pg X pg_tyl pg_cl (d + 6) 30 51 [.ref 23, .int 0, .int 6, .int 13, .int x4] [.int 0] (cd f A R wr) _
            refine pz_if_eq (off := 6) (t := 57) (by decide +kernel) (by decide) rfl kz_0 (fun h15 => ?_) (fun h15 => by omega)
            refine pz_iinc (j := 4) (n := 1) (by decide +kernel) rfl rfl (by decide +kernel) (by omega) (by omega) (fun z16 hz16 => ?_)
            show pmE pg X pg_tyl pg_cl (d + 6) 30 60 [.ref 23, .int 0, .int 6, .int 13, .int z16] [] (cd f A R wr) _
            refine pe_goto (off := (-24)) (t := 36) (by decide +kernel) (by decide) rfl ?_
            exact ih z16 (by omega) (by omega)
          · skip
            obtain ⟨erq14, kq14⟩ := kq14
            subst erq14
            show pmE pg X pg_tyl pg_cl (d + 6) 30 51 [.ref 23, .int 0, .int 6, .int 13, .int x4] [.int 1] (cd f A R wr) _
            refine pz_if_eq (off := 6) (t := 57) (by decide +kernel) (by decide) rfl kz_1 (fun h17 => by omega) (fun h17 => ?_)
            refine pe_iload (j := 4) (by decide +kernel) rfl ?_
            exact pe_iret (by decide +kernel) rfl rfl (kr_v x4 (by omega))
        · skip
          by_cases h18 : x4.toInt = 8
          · skip
            refine pe_tableIn (df := 99) (lo := 0) (hi := 11) (off := 87) (offs := #[63, 66, 69, 72, 75, 78, 81, 84, 87, 90, 93, 96]) (t := 88) (by decide +kernel) (by omega) (by rw [h18]; rfl) (by decide) rfl ?_
            refine pe_ldcS (j := 170) (q := 36) (by decide +kernel) (by decide +kernel) (by decide +kernel) ?_
            refine pe_xret (by decide +kernel) rfl ⟨rfl, rfl, ?_⟩
            show pmE pg X pg_tyl pg_cl (d + 6) 30 48 [.ref 23, .int 0, .int 6, .int 13, .int x4] [.retAddr 36, .ref 23] (cd f A R wr) _
            refine pz_callV (j := 151) (mj := 32) (by decide +kernel) (cll_V (args := [.retAddr 36]) (n := 1) (by decide +kernel) rfl rfl cd_o23 (by decide +kernel) (Nat.le_of_ble_eq_true rfl) (Nat.le_of_ble_eq_true rfl)) (CM_32_8 hX hI (hR4)) (fun q19a q19b q19c q19d hqq19 => ?_)
            obtain ⟨rq19, eq19, kq19⟩ := hqq19
            cases eq19
            refine ⟨rfl, rfl, ?_⟩
            rcases kq19 with kq19 | kq19
            · skip
              obtain ⟨erq19, kq19⟩ := kq19
              subst erq19
              show pmE pg X pg_tyl pg_cl (d + 6) 30 51 [.ref 23, .int 0, .int 6, .int 13, .int x4] [.int 0] (cd f A R wr) _
              refine pz_if_eq (off := 6) (t := 57) (by decide +kernel) (by decide) rfl kz_0 (fun h20 => ?_) (fun h20 => by omega)
              refine pz_iinc (j := 4) (n := 1) (by decide +kernel) rfl rfl (by decide +kernel) (by omega) (by omega) (fun z21 hz21 => ?_)
              show pmE pg X pg_tyl pg_cl (d + 6) 30 60 [.ref 23, .int 0, .int 6, .int 13, .int z21] [] (cd f A R wr) _
              refine pe_goto (off := (-24)) (t := 36) (by decide +kernel) (by decide) rfl ?_
              exact ih z21 (by omega) (by omega)
            · skip
              obtain ⟨erq19, kq19⟩ := kq19
              subst erq19
              show pmE pg X pg_tyl pg_cl (d + 6) 30 51 [.ref 23, .int 0, .int 6, .int 13, .int x4] [.int 1] (cd f A R wr) _
              refine pz_if_eq (off := 6) (t := 57) (by decide +kernel) (by decide) rfl kz_1 (fun h22 => by omega) (fun h22 => ?_)
              refine pe_iload (j := 4) (by decide +kernel) rfl ?_
              exact pe_iret (by decide +kernel) rfl rfl (kr_v x4 (by omega))
          · skip
            by_cases h23 : x4.toInt = 9
            · skip
              refine pe_tableIn (df := 99) (lo := 0) (hi := 11) (off := 90) (offs := #[63, 66, 69, 72, 75, 78, 81, 84, 87, 90, 93, 96]) (t := 91) (by decide +kernel) (by omega) (by rw [h23]; rfl) (by decide) rfl ?_
              refine pe_ldcS (j := 172) (q := 38) (by decide +kernel) (by decide +kernel) (by decide +kernel) ?_
              refine pe_xret (by decide +kernel) rfl ⟨rfl, rfl, ?_⟩
              show pmE pg X pg_tyl pg_cl (d + 6) 30 48 [.ref 23, .int 0, .int 6, .int 13, .int x4] [.retAddr 38, .ref 23] (cd f A R wr) _
              refine pz_callV (j := 151) (mj := 32) (by decide +kernel) (cll_V (args := [.retAddr 38]) (n := 1) (by decide +kernel) rfl rfl cd_o23 (by decide +kernel) (Nat.le_of_ble_eq_true rfl) (Nat.le_of_ble_eq_true rfl)) (CM_32_9 hX hI (hR4)) (fun q24a q24b q24c q24d hqq24 => ?_)
              obtain ⟨rq24, eq24, kq24⟩ := hqq24
              cases eq24
              refine ⟨rfl, rfl, ?_⟩
              rcases kq24 with kq24 | kq24
              · skip
                obtain ⟨erq24, kq24⟩ := kq24
                subst erq24
                show pmE pg X pg_tyl pg_cl (d + 6) 30 51 [.ref 23, .int 0, .int 6, .int 13, .int x4] [.int 0] (cd f A R wr) _
                refine pz_if_eq (off := 6) (t := 57) (by decide +kernel) (by decide) rfl kz_0 (fun h25 => ?_) (fun h25 => by omega)
                refine pz_iinc (j := 4) (n := 1) (by decide +kernel) rfl rfl (by decide +kernel) (by omega) (by omega) (fun z26 hz26 => ?_)
                show pmE pg X pg_tyl pg_cl (d + 6) 30 60 [.ref 23, .int 0, .int 6, .int 13, .int z26] [] (cd f A R wr) _
                refine pe_goto (off := (-24)) (t := 36) (by decide +kernel) (by decide) rfl ?_
                exact ih z26 (by omega) (by omega)
              · skip
                obtain ⟨erq24, kq24⟩ := kq24
                subst erq24
                show pmE pg X pg_tyl pg_cl (d + 6) 30 51 [.ref 23, .int 0, .int 6, .int 13, .int x4] [.int 1] (cd f A R wr) _
                refine pz_if_eq (off := 6) (t := 57) (by decide +kernel) (by decide) rfl kz_1 (fun h27 => by omega) (fun h27 => ?_)
                refine pe_iload (j := 4) (by decide +kernel) rfl ?_
                exact pe_iret (by decide +kernel) rfl rfl (kr_v x4 (by omega))
            · skip
              by_cases h28 : x4.toInt = 10
              · skip
                refine pe_tableIn (df := 99) (lo := 0) (hi := 11) (off := 93) (offs := #[63, 66, 69, 72, 75, 78, 81, 84, 87, 90, 93, 96]) (t := 94) (by decide +kernel) (by omega) (by rw [h28]; rfl) (by decide) rfl ?_
                refine pe_ldcS (j := 174) (q := 40) (by decide +kernel) (by decide +kernel) (by decide +kernel) ?_
                refine pe_xret (by decide +kernel) rfl ⟨rfl, rfl, ?_⟩
                show pmE pg X pg_tyl pg_cl (d + 6) 30 48 [.ref 23, .int 0, .int 6, .int 13, .int x4] [.retAddr 40, .ref 23] (cd f A R wr) _
                refine pz_callV (j := 151) (mj := 32) (by decide +kernel) (cll_V (args := [.retAddr 40]) (n := 1) (by decide +kernel) rfl rfl cd_o23 (by decide +kernel) (Nat.le_of_ble_eq_true rfl) (Nat.le_of_ble_eq_true rfl)) (CM_32_10 hX hI (hR4)) (fun q29a q29b q29c q29d hqq29 => ?_)
                obtain ⟨rq29, eq29, kq29⟩ := hqq29
                cases eq29
                refine ⟨rfl, rfl, ?_⟩
                rcases kq29 with kq29 | kq29
                · skip
                  obtain ⟨erq29, kq29⟩ := kq29
                  subst erq29
                  show pmE pg X pg_tyl pg_cl (d + 6) 30 51 [.ref 23, .int 0, .int 6, .int 13, .int x4] [.int 0] (cd f A R wr) _
                  refine pz_if_eq (off := 6) (t := 57) (by decide +kernel) (by decide) rfl kz_0 (fun h30 => ?_) (fun h30 => by omega)
                  refine pz_iinc (j := 4) (n := 1) (by decide +kernel) rfl rfl (by decide +kernel) (by omega) (by omega) (fun z31 hz31 => ?_)
                  show pmE pg X pg_tyl pg_cl (d + 6) 30 60 [.ref 23, .int 0, .int 6, .int 13, .int z31] [] (cd f A R wr) _
                  refine pe_goto (off := (-24)) (t := 36) (by decide +kernel) (by decide) rfl ?_
                  exact ih z31 (by omega) (by omega)
                · skip
                  obtain ⟨erq29, kq29⟩ := kq29
                  subst erq29
                  show pmE pg X pg_tyl pg_cl (d + 6) 30 51 [.ref 23, .int 0, .int 6, .int 13, .int x4] [.int 1] (cd f A R wr) _
                  refine pz_if_eq (off := 6) (t := 57) (by decide +kernel) (by decide) rfl kz_1 (fun h32 => by omega) (fun h32 => ?_)
                  refine pe_iload (j := 4) (by decide +kernel) rfl ?_
                  exact pe_iret (by decide +kernel) rfl rfl (kr_v x4 (by omega))
              · skip
                by_cases h33 : x4.toInt = 11
                · skip
                  refine pe_tableIn (df := 99) (lo := 0) (hi := 11) (off := 96) (offs := #[63, 66, 69, 72, 75, 78, 81, 84, 87, 90, 93, 96]) (t := 97) (by decide +kernel) (by omega) (by rw [h33]; rfl) (by decide) rfl ?_
                  refine pe_ldcS (j := 176) (q := 42) (by decide +kernel) (by decide +kernel) (by decide +kernel) ?_
                  refine pe_xret (by decide +kernel) rfl ⟨rfl, rfl, ?_⟩
                  show pmE pg X pg_tyl pg_cl (d + 6) 30 48 [.ref 23, .int 0, .int 6, .int 13, .int x4] [.retAddr 42, .ref 23] (cd f A R wr) _
                  refine pz_callV (j := 151) (mj := 32) (by decide +kernel) (cll_V (args := [.retAddr 42]) (n := 1) (by decide +kernel) rfl rfl cd_o23 (by decide +kernel) (Nat.le_of_ble_eq_true rfl) (Nat.le_of_ble_eq_true rfl)) (CM_32_11 hX hI (hR4)) (fun q34a q34b q34c q34d hqq34 => ?_)
                  obtain ⟨rq34, eq34, kq34⟩ := hqq34
                  cases eq34
                  refine ⟨rfl, rfl, ?_⟩
                  rcases kq34 with kq34 | kq34
                  · skip
                    obtain ⟨erq34, kq34⟩ := kq34
                    subst erq34
                    show pmE pg X pg_tyl pg_cl (d + 6) 30 51 [.ref 23, .int 0, .int 6, .int 13, .int x4] [.int 0] (cd f A R wr) _
                    refine pz_if_eq (off := 6) (t := 57) (by decide +kernel) (by decide) rfl kz_0 (fun h35 => ?_) (fun h35 => by omega)
                    refine pz_iinc (j := 4) (n := 1) (by decide +kernel) rfl rfl (by decide +kernel) (by omega) (by omega) (fun z36 hz36 => ?_)
                    show pmE pg X pg_tyl pg_cl (d + 6) 30 60 [.ref 23, .int 0, .int 6, .int 13, .int z36] [] (cd f A R wr) _
                    refine pe_goto (off := (-24)) (t := 36) (by decide +kernel) (by decide) rfl ?_
                    exact ih z36 (by omega) (by omega)
                  · skip
                    obtain ⟨erq34, kq34⟩ := kq34
                    subst erq34
                    show pmE pg X pg_tyl pg_cl (d + 6) 30 51 [.ref 23, .int 0, .int 6, .int 13, .int x4] [.int 1] (cd f A R wr) _
                    refine pz_if_eq (off := 6) (t := 57) (by decide +kernel) (by decide) rfl kz_1 (fun h37 => by omega) (fun h37 => ?_)
                    refine pe_iload (j := 4) (by decide +kernel) rfl ?_
                    exact pe_iret (by decide +kernel) rfl rfl (kr_v x4 (by omega))
                · skip
                  refine pe_tableOut (df := 99) (lo := 0) (hi := 11) (offs := #[63, 66, 69, 72, 75, 78, 81, 84, 87, 90, 93, 96]) (t := 100) (by decide +kernel) (by omega) (by decide) rfl ?_
                  refine pe_ldcS (j := 177) (q := 44) (by decide +kernel) (by decide +kernel) (by decide +kernel) ?_
                  refine pe_xret (by decide +kernel) rfl ⟨rfl, rfl, ?_⟩
                  show pmE pg X pg_tyl pg_cl (d + 6) 30 48 [.ref 23, .int 0, .int 6, .int 13, .int x4] [.retAddr 44, .ref 23] (cd f A R wr) _
                  refine pz_callV (j := 151) (mj := 32) (by decide +kernel) (cll_V (args := [.retAddr 44]) (n := 1) (by decide +kernel) rfl rfl cd_o23 (by decide +kernel) (Nat.le_of_ble_eq_true rfl) (Nat.le_of_ble_eq_true rfl)) (CM_32_12 hX hI (hR4)) (fun q38a q38b q38c q38d hqq38 => ?_)
                  obtain ⟨rq38, eq38, kq38⟩ := hqq38
                  cases eq38
                  refine ⟨rfl, rfl, ?_⟩
                  rcases kq38 with kq38 | kq38
                  · skip
                    obtain ⟨erq38, kq38⟩ := kq38
                    subst erq38
                    show pmE pg X pg_tyl pg_cl (d + 6) 30 51 [.ref 23, .int 0, .int 6, .int 13, .int x4] [.int 0] (cd f A R wr) _
                    refine pz_if_eq (off := 6) (t := 57) (by decide +kernel) (by decide) rfl kz_0 (fun h39 => ?_) (fun h39 => by omega)
                    refine pz_iinc (j := 4) (n := 1) (by decide +kernel) rfl rfl (by decide +kernel) (by omega) (by omega) (fun z40 hz40 => ?_)
                    show pmE pg X pg_tyl pg_cl (d + 6) 30 60 [.ref 23, .int 0, .int 6, .int 13, .int z40] [] (cd f A R wr) _
                    refine pe_goto (off := (-24)) (t := 36) (by decide +kernel) (by decide) rfl ?_
                    exact ih z40 (by omega) (by omega)
                  · skip
                    obtain ⟨erq38, kq38⟩ := kq38
                    subst erq38
                    show pmE pg X pg_tyl pg_cl (d + 6) 30 51 [.ref 23, .int 0, .int 6, .int 13, .int x4] [.int 1] (cd f A R wr) _
                    refine pz_if_eq (off := 6) (t := 57) (by decide +kernel) (by decide) rfl kz_1 (fun h41 => by omega) (fun h41 => ?_)
                    refine pe_iload (j := 4) (by decide +kernel) rfl ?_
                    exact pe_iret (by decide +kernel) rfl rfl (kr_v x4 (by omega))
set_option maxRecDepth 100000 in
set_option maxHeartbeats 8000000 in
theorem CM_30 {X : pm_X} {d : Nat} {wr : pm_W} {f : Nat → Int32} {A : Nat → List Int32} {R : Nat → Value} (hX : XO X) (hI : CI f A R) (hR4 : R 4 = .ref 4) : pmE pg X pg_tyl pg_cl (d + 6) 30 0 (pm_ent (pm_max pg 30) [.ref 23, .int 0]) [] (cd f A R wr) (fun q => ∃ (r : Int32), q = (some (.int r), cd f A R wr, 0, 0) ∧ ((((-1) ≤ r.toInt ∧ r.toInt ≤ 12) ∧ True))) := by
  show pmE pg X pg_tyl pg_cl (d + 6) 30 0 [.ref 23, .int 0, pm_dead, pm_dead, pm_dead] [] (cd f A R wr) _
  refine pe_aload_n (j := 0) (by decide +kernel) rfl ?_
  refine pe_get (j := 62) (ci := 4) (n := 6) (by decide +kernel) (by decide +kernel) cd_o23 rfl ?_
  have hr_f_374 := cf_374 hI
  refine pe_iconstv (n := 1) (v := 1) (by decide +kernel) (by decide +kernel) ?_
  refine pz_icmp_eq (off := 5) (t := 10) (by decide +kernel) (by decide) rfl rfl kz_1 (fun h1 => ?_) (fun h1 => ?_)
  · skip
    refine pe_iload_n (j := 1) (by decide +kernel) rfl ?_
    refine pz_if_ne (off := 8) (t := 19) (by decide +kernel) (by decide) rfl kz_0 (fun h2 => by omega) (fun h2 => ?_)
    refine pe_bipushv (n := 6) (v := 6) (by decide +kernel) (by decide +kernel) ?_
    refine pe_goto (off := 4) (t := 20) (by decide +kernel) (by decide) rfl ?_
    refine pe_istore_n (j := 2) (ls' := [.ref 23, .int 0, .int 6, pm_dead, pm_dead]) (by decide +kernel) (Nat.le_of_ble_eq_true rfl) rfl ?_
    refine pe_iload_n (j := 1) (by decide +kernel) rfl ?_
    refine pz_if_ne (off := 8) (t := 30) (by decide +kernel) (by decide) rfl kz_0 (fun h3 => by omega) (fun h3 => ?_)
    refine pe_bipushv (n := 13) (v := 13) (by decide +kernel) (by decide +kernel) ?_
    refine pe_goto (off := 5) (t := 32) (by decide +kernel) (by decide) rfl ?_
    refine pe_istore_n (j := 3) (ls' := [.ref 23, .int 0, .int 6, .int 13, pm_dead]) (by decide +kernel) (Nat.le_of_ble_eq_true rfl) rfl ?_
    refine pe_iload_n (j := 2) (by decide +kernel) rfl ?_
    refine pe_istore (j := 4) (ls' := [.ref 23, .int 0, .int 6, .int 13, .int 6]) (by decide +kernel) (Nat.le_of_ble_eq_true rfl) rfl ?_
    refine CL_30_36 hX hI (hR4) (fun y4 gy4 => ?_) (fun r5 gr5 => ⟨r5, rfl, ⟨(by omega), trivial⟩⟩) 8 6 (by decide +kernel) (by decide +kernel)
    refine pe_iconstv (n := (-1)) (v := (-1)) (by decide +kernel) (by decide +kernel) ?_
    exact pe_iret (by decide +kernel) rfl rfl ⟨(-1), rfl, ⟨(by decide +kernel), trivial⟩⟩
  · skip
    refine pe_iconstv (n := (-1)) (v := (-1)) (by decide +kernel) (by decide +kernel) ?_
    exact pe_iret (by decide +kernel) rfl rfl ⟨(-1), rfl, ⟨(by decide +kernel), trivial⟩⟩
