set_option maxRecDepth 100000 in
set_option maxHeartbeats 8000000 in
theorem CL_32_6_20 {X : pm_X} {d : Nat} {wr : pm_W} {Q : pm_R → Prop} {f : Nat → Int32} {A : Nat → List Int32} {R : Nat → Value} (hX : XO X) (hI : CI f A R) (hR4 : R 4 = .ref 4) (k_54_0 : ∀ (y2 : Int32), (6 ≤ y2.toInt ∧ y2.toInt ≤ 6) → pmE pg X pg_tyl pg_cl (d + 5) 32 54 [.ref 23, .retAddr 32, .int y2] [] (cd f A R wr) Q) (kr_0 : Q (some (.int 0), cd f A R wr, 0, 0)) : ∀ (m : Nat) (x2 : Int32), (0 ≤ x2.toInt ∧ x2.toInt ≤ 6) → 6 - x2.toInt < (m : Int) → pmE pg X pg_tyl pg_cl (d + 5) 32 20 [.ref 23, .retAddr 32, .int x2] [] (cd f A R wr) Q := by
  intro m
  induction m with
  | zero =>
    intro x2 gx2 hm
    exfalso
    have l0 := zi_lo x2
    have u0 := zi_hi x2
    omega
  | succ m ih =>
    intro x2 gx2 hm
    refine pe_iload_n (j := 2) (by decide +kernel) rfl ?_
    refine pe_aloadX_n (j := 1) (by decide +kernel) rfl ?_
    refine pi_V (j := 179) (mj := 33) (by decide +kernel) (cll_T (args := []) (n := 0) (by decide +kernel) rfl rfl (hX 32 (by decide +kernel)) (by decide +kernel) (Nat.le_of_ble_eq_true rfl) (Nat.le_of_ble_eq_true rfl)) ?_
    show pmE pg X pg_tyl pg_cl (d + 4) 33 0 [.retAddr 32] [] (cd f A R wr) _
    refine pe_aloadX_n (j := 0) (by decide +kernel) rfl ?_
    refine pe_getT1 (k := 9) (by decide +kernel) (hX 32 (by decide +kernel)) (by decide +kernel) ?_
    refine pe_alenXv (v := 6) (by decide +kernel) (hX 33 (by decide +kernel)) (by decide +kernel) (by decide +kernel) ?_
    refine pe_aloadX_n (j := 0) (by decide +kernel) rfl ?_
    refine pi_V (j := 335) (mj := 34) (by decide +kernel) (cll_T (args := []) (n := 0) (by decide +kernel) rfl rfl (hX 32 (by decide +kernel)) (by decide +kernel) (Nat.le_of_ble_eq_true rfl) (Nat.le_of_ble_eq_true rfl)) ?_
    show pmE pg X pg_tyl pg_cl (d + 3) 34 0 [.retAddr 32] [] (cd f A R wr) _
    refine pe_getstatic (j := 38) (v := .int 1) (by decide +kernel) (by decide +kernel) ?_
    refine pz_if_eq (off := 10) (t := 13) (by decide +kernel) (by decide) rfl kz_1 (fun h1 => by omega) (fun h1 => ?_)
    refine pe_aloadX_n (j := 0) (by decide +kernel) rfl ?_
    refine pe_getT0 (k := 15) (by decide +kernel) (hX 32 (by decide +kernel)) (by decide +kernel) ?_
    refine pe_goto (off := 4) (t := 14) (by decide +kernel) (by decide) rfl ?_
    refine pe_iret (by decide +kernel) rfl (by decide +kernel) ⟨rfl, rfl, ?_⟩
    show pmE pg X pg_tyl pg_cl (d + 4) 33 9 [.retAddr 32] [.int 0, .int 6] (cd f A R wr) _
    refine pe_ishr (by decide +kernel) ?_
    refine pe_top (v := 6) (by decide +kernel) ?_
    refine pe_iret (by decide +kernel) rfl rfl ⟨rfl, rfl, ?_⟩
    show pmE pg X pg_tyl pg_cl (d + 5) 32 25 [.ref 23, .retAddr 32, .int x2] [.int 6, .int x2] (cd f A R wr) _
    refine pz_icmp_ge (off := 29) (t := 54) (by decide +kernel) (by decide) rfl rfl kz_6 (fun h3 => ?_) (fun h3 => ?_)
    · skip
      exact k_54_0 x2 (by omega)
    · skip
      refine pe_aload_n (j := 0) (by decide +kernel) rfl ?_
      refine pe_aload_n (j := 0) (by decide +kernel) rfl ?_
      refine pe_get (j := 69) (ci := 4) (n := 7) (by decide +kernel) (by decide +kernel) cd_o23 rfl ?_
      have hr_f_375 := cf_375 hI
      refine pe_iload_n (j := 2) (by decide +kernel) rfl ?_
      refine pz_add (by decide +kernel) rfl rfl (by omega) (by omega) (fun z4 hz4 => ?_)
      refine pi_V (j := 184) (mj := 24) (by decide +kernel) (cll_V (args := [.int z4]) (n := 1) (by decide +kernel) rfl rfl cd_o23 (by decide +kernel) (Nat.le_of_ble_eq_true rfl) (Nat.le_of_ble_eq_true rfl)) ?_
      show pmE pg X pg_tyl pg_cl (d + 4) 24 0 [.ref 23, .int z4] [] (cd f A R wr) _
      refine pe_iload_n (j := 1) (by decide +kernel) rfl ?_
      refine pz_if_lt (off := 20) (t := 21) (by decide +kernel) (by decide) rfl hz4 (fun h5 => by omega) (fun h5 => ?_)
      refine pe_iload_n (j := 1) (by decide +kernel) rfl ?_
      refine pe_aload_n (j := 0) (by decide +kernel) rfl ?_
      refine pe_get (j := 43) (ci := 4) (n := 4) (by decide +kernel) (by decide +kernel) cd_o23 rfl ?_
      have hr_f_372 := cf_372 hI
      refine pz_icmp_ge (off := 12) (t := 21) (by decide +kernel) (by decide) rfl hz4 rfl (fun h6 => ?_) (fun h6 => ?_)
      · skip
        refine pe_iconstv (n := (-1)) (v := (-1)) (by decide +kernel) (by decide +kernel) ?_
        refine pe_iret (by decide +kernel) rfl rfl ⟨rfl, rfl, ?_⟩
        show pmE pg X pg_tyl pg_cl (d + 5) 32 38 [.ref 23, .retAddr 32, .int x2] [.int (-1)] (cd f A R wr) _
        refine pe_aloadX_n (j := 1) (by decide +kernel) rfl ?_
        refine pe_iload_n (j := 2) (by decide +kernel) rfl ?_
        refine pi_V (j := 187) (mj := 35) (by decide +kernel) (cll_T (args := [.int x2]) (n := 1) (by decide +kernel) rfl rfl (hX 32 (by decide +kernel)) (by decide +kernel) (Nat.le_of_ble_eq_true rfl) (Nat.le_of_ble_eq_true rfl)) ?_
        show pmE pg X pg_tyl pg_cl (d + 4) 35 0 [.retAddr 32, .int x2] [] (cd f A R wr) _
        refine pe_aloadX_n (j := 0) (by decide +kernel) rfl ?_
        refine pi_V (j := 492) (mj := 36) (by decide +kernel) (cll_T (args := []) (n := 0) (by decide +kernel) rfl rfl (hX 32 (by decide +kernel)) (by decide +kernel) (Nat.le_of_ble_eq_true rfl) (Nat.le_of_ble_eq_true rfl)) ?_
        show pmE pg X pg_tyl pg_cl (d + 3) 36 0 [.retAddr 32] [] (cd f A R wr) _
        refine pe_getstatic (j := 38) (v := .int 1) (by decide +kernel) (by decide +kernel) ?_
        refine pz_if_eq (off := 14) (t := 17) (by decide +kernel) (by decide) rfl kz_1 (fun h7 => by omega) (fun h7 => ?_)
        refine pe_aloadX_n (j := 0) (by decide +kernel) rfl ?_
        refine pe_getT0 (k := 15) (by decide +kernel) (hX 32 (by decide +kernel)) (by decide +kernel) ?_
        refine pz_if_ne (off := 7) (t := 17) (by decide +kernel) (by decide) rfl kz_0 (fun h8 => by omega) (fun h8 => ?_)
        refine pe_iconstv (n := 1) (v := 1) (by decide +kernel) (by decide +kernel) ?_
        refine pe_goto (off := 4) (t := 18) (by decide +kernel) (by decide) rfl ?_
        refine pe_iret (by decide +kernel) rfl rfl ⟨rfl, rfl, ?_⟩
        show pmE pg X pg_tyl pg_cl (d + 4) 35 4 [.retAddr 32, .int x2] [.int 1] (cd f A R wr) _
        refine pz_if_eq (off := 12) (t := 16) (by decide +kernel) (by decide) rfl kz_1 (fun h9 => by omega) (fun h9 => ?_)
        refine pe_aloadX_n (j := 0) (by decide +kernel) rfl ?_
        refine pe_getT1 (k := 9) (by decide +kernel) (hX 32 (by decide +kernel)) (by decide +kernel) ?_
        refine pe_iload_n (j := 1) (by decide +kernel) rfl ?_
        refine pi_S (j := 495) (mj := 37) (by decide +kernel) (by decide +kernel) rfl ?_
        show pmE pg X pg_tyl pg_cl (d + 3) 37 0 [.retAddr 33, .int x2] [] (cd f A R wr) _
        refine pe_iload_n (j := 1) (by decide +kernel) rfl ?_
        refine pe_aloadX_n (j := 0) (by decide +kernel) rfl ?_
        refine pe_alenXv (v := 6) (by decide +kernel) (hX 33 (by decide +kernel)) (by decide +kernel) (by decide +kernel) ?_
        refine pi_S (j := 9) (mj := 38) (by decide +kernel) (by decide +kernel) rfl ?_
        show pmE pg X pg_tyl pg_cl (d + 2) 38 0 [.int x2, .int 6] [] (cd f A R wr) _
        refine pe_iload_n (j := 0) (by decide +kernel) rfl ?_
        refine pe_iload_n (j := 1) (by decide +kernel) rfl ?_
        refine pe_getstatic (j := 1053) (v := .retAddr 99) (by decide +kernel) (by decide +kernel) ?_
        refine pi_S (j := 1059) (mj := 39) (by decide +kernel) (by decide +kernel) rfl ?_
        show pmE pg X pg_tyl pg_cl (d + 1) 39 0 [.int x2, .int 6, .retAddr 99] [] (cd f A R wr) _
        refine pe_iload_n (j := 0) (by decide +kernel) rfl ?_
        refine pz_if_lt (off := 8) (t := 9) (by decide +kernel) (by decide) rfl rfl (fun h10 => by omega) (fun h10 => ?_)
        refine pe_iload_n (j := 0) (by decide +kernel) rfl ?_
        refine pe_iload_n (j := 1) (by decide +kernel) rfl ?_
        refine pz_icmp_lt (off := 10) (t := 16) (by decide +kernel) (by decide) rfl rfl kz_6 (fun h11 => ?_) (fun h11 => by omega)
        refine pe_iload_n (j := 0) (by decide +kernel) rfl ?_
        refine pe_iret (by decide +kernel) rfl rfl ⟨rfl, rfl, ?_⟩
        show pmE pg X pg_tyl pg_cl (d + 2) 38 8 [.int x2, .int 6] [.int x2] (cd f A R wr) _
        refine pe_pop (by decide +kernel) rfl ?_
        refine pe_vret (by decide +kernel) rfl ⟨rfl, rfl, ?_⟩
        show pmE pg X pg_tyl pg_cl (d + 3) 37 6 [.retAddr 33, .int x2] [] (cd f A R wr) _
        refine pe_aloadX_n (j := 0) (by decide +kernel) rfl ?_
        refine pe_iload_n (j := 1) (by decide +kernel) rfl ?_
        refine pz_baldX (by decide +kernel) (hX 33 (by decide +kernel)) rfl rfl (by omega) (by omega) (fun v12 ev12 => ?_)
        have rv12 : 0 ≤ v12.toInt ∧ v12.toInt ≤ 112 := by rw [ev12]; exact lt_all (by decide +kernel) (by decide) _
        refine pe_sipushv (n := 255) (v := 255) (by decide +kernel) (by decide +kernel) ?_
        refine pz_and255 (by decide +kernel) (fun z13 hz13 => ?_)
        refine pz_i2c (by decide +kernel) rfl (by omega) (by omega) (fun z14 hz14 => ?_)
        rw [hz14]
        refine pe_iret (by decide +kernel) rfl (nz_c (by omega)) ⟨rfl, rfl, ?_⟩
        show pmE pg X pg_tyl pg_cl (d + 4) 35 15 [.retAddr 32, .int x2] [.int z13] (cd f A R wr) _
        refine pe_iret (by decide +kernel) rfl (nz_c (by omega)) ⟨rfl, rfl, ?_⟩
        show pmE pg X pg_tyl pg_cl (d + 5) 32 43 [.ref 23, .retAddr 32, .int x2] [.int z13, .int (-1)] (cd f A R wr) _
        refine pz_icmp_eq (off := 5) (t := 48) (by decide +kernel) (by decide) rfl kz_m1 rfl (fun h15 => by omega) (fun h15 => ?_)
        refine pe_iconstv (n := 0) (v := 0) (by decide +kernel) (by decide +kernel) ?_
        exact pe_iret (by decide +kernel) rfl rfl kr_0
      · skip
        refine pe_aload_n (j := 0) (by decide +kernel) rfl ?_
        refine pe_get (j := 29) (ci := 4) (n := 3) (by decide +kernel) (by decide +kernel) cd_o23 rfl ?_
        refine pe_topV (v := .ref 4) (hR4) ?_
        refine pe_iload_n (j := 1) (by decide +kernel) rfl ?_
        refine pz_bald (by decide +kernel) cd_a4 (cl_4 hI) hz4 (by omega) (by omega) (fun v16 ev16 => ?_)
        have rv16 : (-128) ≤ v16.toInt ∧ v16.toInt ≤ 127 := ct_4 hI ev16
        refine pe_goto (off := 4) (t := 22) (by decide +kernel) (by decide) rfl ?_
        refine pe_iret (by decide +kernel) rfl rfl ⟨rfl, rfl, ?_⟩
        show pmE pg X pg_tyl pg_cl (d + 5) 32 38 [.ref 23, .retAddr 32, .int x2] [.int v16] (cd f A R wr) _
        refine pe_aloadX_n (j := 1) (by decide +kernel) rfl ?_
        refine pe_iload_n (j := 2) (by decide +kernel) rfl ?_
        refine pi_V (j := 187) (mj := 35) (by decide +kernel) (cll_T (args := [.int x2]) (n := 1) (by decide +kernel) rfl rfl (hX 32 (by decide +kernel)) (by decide +kernel) (Nat.le_of_ble_eq_true rfl) (Nat.le_of_ble_eq_true rfl)) ?_
        show pmE pg X pg_tyl pg_cl (d + 4) 35 0 [.retAddr 32, .int x2] [] (cd f A R wr) _
        refine pe_aloadX_n (j := 0) (by decide +kernel) rfl ?_
        refine pi_V (j := 492) (mj := 36) (by decide +kernel) (cll_T (args := []) (n := 0) (by decide +kernel) rfl rfl (hX 32 (by decide +kernel)) (by decide +kernel) (Nat.le_of_ble_eq_true rfl) (Nat.le_of_ble_eq_true rfl)) ?_
        show pmE pg X pg_tyl pg_cl (d + 3) 36 0 [.retAddr 32] [] (cd f A R wr) _
        refine pe_getstatic (j := 38) (v := .int 1) (by decide +kernel) (by decide +kernel) ?_
        refine pz_if_eq (off := 14) (t := 17) (by decide +kernel) (by decide) rfl kz_1 (fun h17 => by omega) (fun h17 => ?_)
        refine pe_aloadX_n (j := 0) (by decide +kernel) rfl ?_
        refine pe_getT0 (k := 15) (by decide +kernel) (hX 32 (by decide +kernel)) (by decide +kernel) ?_
        refine pz_if_ne (off := 7) (t := 17) (by decide +kernel) (by decide) rfl kz_0 (fun h18 => by omega) (fun h18 => ?_)
        refine pe_iconstv (n := 1) (v := 1) (by decide +kernel) (by decide +kernel) ?_
        refine pe_goto (off := 4) (t := 18) (by decide +kernel) (by decide) rfl ?_
        refine pe_iret (by decide +kernel) rfl rfl ⟨rfl, rfl, ?_⟩
        show pmE pg X pg_tyl pg_cl (d + 4) 35 4 [.retAddr 32, .int x2] [.int 1] (cd f A R wr) _
        refine pz_if_eq (off := 12) (t := 16) (by decide +kernel) (by decide) rfl kz_1 (fun h19 => by omega) (fun h19 => ?_)
        refine pe_aloadX_n (j := 0) (by decide +kernel) rfl ?_
        refine pe_getT1 (k := 9) (by decide +kernel) (hX 32 (by decide +kernel)) (by decide +kernel) ?_
        refine pe_iload_n (j := 1) (by decide +kernel) rfl ?_
        refine pi_S (j := 495) (mj := 37) (by decide +kernel) (by decide +kernel) rfl ?_
        show pmE pg X pg_tyl pg_cl (d + 3) 37 0 [.retAddr 33, .int x2] [] (cd f A R wr) _
        refine pe_iload_n (j := 1) (by decide +kernel) rfl ?_
        refine pe_aloadX_n (j := 0) (by decide +kernel) rfl ?_
        refine pe_alenXv (v := 6) (by decide +kernel) (hX 33 (by decide +kernel)) (by decide +kernel) (by decide +kernel) ?_
        refine pi_S (j := 9) (mj := 38) (by decide +kernel) (by decide +kernel) rfl ?_
        show pmE pg X pg_tyl pg_cl (d + 2) 38 0 [.int x2, .int 6] [] (cd f A R wr) _
        refine pe_iload_n (j := 0) (by decide +kernel) rfl ?_
        refine pe_iload_n (j := 1) (by decide +kernel) rfl ?_
        refine pe_getstatic (j := 1053) (v := .retAddr 99) (by decide +kernel) (by decide +kernel) ?_
        refine pi_S (j := 1059) (mj := 39) (by decide +kernel) (by decide +kernel) rfl ?_
        show pmE pg X pg_tyl pg_cl (d + 1) 39 0 [.int x2, .int 6, .retAddr 99] [] (cd f A R wr) _
        refine pe_iload_n (j := 0) (by decide +kernel) rfl ?_
        refine pz_if_lt (off := 8) (t := 9) (by decide +kernel) (by decide) rfl rfl (fun h20 => by omega) (fun h20 => ?_)
        refine pe_iload_n (j := 0) (by decide +kernel) rfl ?_
        refine pe_iload_n (j := 1) (by decide +kernel) rfl ?_
        refine pz_icmp_lt (off := 10) (t := 16) (by decide +kernel) (by decide) rfl rfl kz_6 (fun h21 => ?_) (fun h21 => by omega)
        refine pe_iload_n (j := 0) (by decide +kernel) rfl ?_
        refine pe_iret (by decide +kernel) rfl rfl ⟨rfl, rfl, ?_⟩
        show pmE pg X pg_tyl pg_cl (d + 2) 38 8 [.int x2, .int 6] [.int x2] (cd f A R wr) _
        refine pe_pop (by decide +kernel) rfl ?_
        refine pe_vret (by decide +kernel) rfl ⟨rfl, rfl, ?_⟩
        show pmE pg X pg_tyl pg_cl (d + 3) 37 6 [.retAddr 33, .int x2] [] (cd f A R wr) _
        refine pe_aloadX_n (j := 0) (by decide +kernel) rfl ?_
        refine pe_iload_n (j := 1) (by decide +kernel) rfl ?_
        refine pz_baldX (by decide +kernel) (hX 33 (by decide +kernel)) rfl rfl (by omega) (by omega) (fun v22 ev22 => ?_)
        have rv22 : 0 ≤ v22.toInt ∧ v22.toInt ≤ 112 := by rw [ev22]; exact lt_all (by decide +kernel) (by decide) _
        refine pe_sipushv (n := 255) (v := 255) (by decide +kernel) (by decide +kernel) ?_
        refine pz_and255 (by decide +kernel) (fun z23 hz23 => ?_)
        refine pz_i2c (by decide +kernel) rfl (by omega) (by omega) (fun z24 hz24 => ?_)
        rw [hz24]
        refine pe_iret (by decide +kernel) rfl (nz_c (by omega)) ⟨rfl, rfl, ?_⟩
        show pmE pg X pg_tyl pg_cl (d + 4) 35 15 [.retAddr 32, .int x2] [.int z23] (cd f A R wr) _
        refine pe_iret (by decide +kernel) rfl (nz_c (by omega)) ⟨rfl, rfl, ?_⟩
        show pmE pg X pg_tyl pg_cl (d + 5) 32 43 [.ref 23, .retAddr 32, .int x2] [.int z23, .int v16] (cd f A R wr) _
        refine pz_icmp_eq (off := 5) (t := 48) (by decide +kernel) (by decide) rfl rfl rfl (fun h25 => ?_) (fun h25 => ?_)
        · skip
          refine pz_iinc (j := 2) (n := 1) (by decide +kernel) rfl rfl (by decide +kernel) (by omega) (by omega) (fun z26 hz26 => ?_)
          show pmE pg X pg_tyl pg_cl (d + 5) 32 51 [.ref 23, .retAddr 32, .int z26] [] (cd f A R wr) _
          refine pe_goto (off := (-31)) (t := 20) (by decide +kernel) (by decide) rfl ?_
          exact ih z26 (by omega) (by omega)
        · skip
          refine pe_iconstv (n := 0) (v := 0) (by decide +kernel) (by decide +kernel) ?_
          exact pe_iret (by decide +kernel) rfl rfl kr_0
set_option maxRecDepth 100000 in
set_option maxHeartbeats 8000000 in
theorem CM_32_6 {X : pm_X} {d : Nat} {wr : pm_W} {f : Nat → Int32} {A : Nat → List Int32} {R : Nat → Value} (hX : XO X) (hI : CI f A R) (hR4 : R 4 = .ref 4) : pmE pg X pg_tyl pg_cl (d + 5) 32 0 (pm_ent (pm_max pg 32) [.ref 23, .retAddr 32]) [] (cd f A R wr) (fun q => ∃ (r : Int32), q = (some (.int r), cd f A R wr, 0, 0) ∧ ((r = 0 ∧ True) ∨ (r = 1 ∧ True))) := by
  show pmE pg X pg_tyl pg_cl (d + 5) 32 0 [.ref 23, .retAddr 32, pm_dead] [] (cd f A R wr) _
  refine pe_aload_n (j := 0) (by decide +kernel) rfl ?_
  refine pe_get (j := 47) (ci := 4) (n := 5) (by decide +kernel) (by decide +kernel) cd_o23 rfl ?_
  have hr_f_373 := cf_373 hI
  refine pe_aload_n (j := 0) (by decide +kernel) rfl ?_
  refine pe_get (j := 69) (ci := 4) (n := 7) (by decide +kernel) (by decide +kernel) cd_o23 rfl ?_
  have hr_f_375 := cf_375 hI
  refine pz_sub (by decide +kernel) rfl rfl (by omega) (by omega) (fun z1 hz1 => ?_)
  refine pe_aloadX_n (j := 1) (by decide +kernel) rfl ?_
  refine pi_V (j := 179) (mj := 33) (by decide +kernel) (cll_T (args := []) (n := 0) (by decide +kernel) rfl rfl (hX 32 (by decide +kernel)) (by decide +kernel) (Nat.le_of_ble_eq_true rfl) (Nat.le_of_ble_eq_true rfl)) ?_
  show pmE pg X pg_tyl pg_cl (d + 4) 33 0 [.retAddr 32] [] (cd f A R wr) _
  refine pe_aloadX_n (j := 0) (by decide +kernel) rfl ?_
  refine pe_getT1 (k := 9) (by decide +kernel) (hX 32 (by decide +kernel)) (by decide +kernel) ?_
  refine pe_alenXv (v := 6) (by decide +kernel) (hX 33 (by decide +kernel)) (by decide +kernel) (by decide +kernel) ?_
  refine pe_aloadX_n (j := 0) (by decide +kernel) rfl ?_
  refine pi_V (j := 335) (mj := 34) (by decide +kernel) (cll_T (args := []) (n := 0) (by decide +kernel) rfl rfl (hX 32 (by decide +kernel)) (by decide +kernel) (Nat.le_of_ble_eq_true rfl) (Nat.le_of_ble_eq_true rfl)) ?_
  show pmE pg X pg_tyl pg_cl (d + 3) 34 0 [.retAddr 32] [] (cd f A R wr) _
  refine pe_getstatic (j := 38) (v := .int 1) (by decide +kernel) (by decide +kernel) ?_
  refine pz_if_eq (off := 10) (t := 13) (by decide +kernel) (by decide) rfl kz_1 (fun h2 => by omega) (fun h2 => ?_)
  refine pe_aloadX_n (j := 0) (by decide +kernel) rfl ?_
  refine pe_getT0 (k := 15) (by decide +kernel) (hX 32 (by decide +kernel)) (by decide +kernel) ?_
  refine pe_goto (off := 4) (t := 14) (by decide +kernel) (by decide) rfl ?_
  refine pe_iret (by decide +kernel) rfl (by decide +kernel) ⟨rfl, rfl, ?_⟩
  show pmE pg X pg_tyl pg_cl (d + 4) 33 9 [.retAddr 32] [.int 0, .int 6] (cd f A R wr) _
  refine pe_ishr (by decide +kernel) ?_
  refine pe_top (v := 6) (by decide +kernel) ?_
  refine pe_iret (by decide +kernel) rfl rfl ⟨rfl, rfl, ?_⟩
  show pmE pg X pg_tyl pg_cl (d + 5) 32 13 [.ref 23, .retAddr 32, pm_dead] [.int 6, .int z1] (cd f A R wr) _
  refine pz_icmp_eq (off := 5) (t := 18) (by decide +kernel) (by decide) rfl hz1 kz_6 (fun h4 => ?_) (fun h4 => ?_)
  · skip
    clear hz1
    refine pe_iconstv (n := 0) (v := 0) (by decide +kernel) (by decide +kernel) ?_
    refine pe_istore_n (j := 2) (ls' := [.ref 23, .retAddr 32, .int 0]) (by decide +kernel) (Nat.le_of_ble_eq_true rfl) rfl ?_
    refine CL_32_6_20 hX hI (hR4) (fun y5 gy5 => ?_) (⟨0, rfl, Or.inl ⟨rfl, trivial⟩⟩) 7 0 (by decide +kernel) (by decide +kernel)
    refine pe_iconstv (n := 1) (v := 1) (by decide +kernel) (by decide +kernel) ?_
    exact pe_iret (by decide +kernel) rfl rfl ⟨1, rfl, Or.inr (⟨rfl, trivial⟩)⟩
  · skip
    clear hz1
    refine pe_iconstv (n := 0) (v := 0) (by decide +kernel) (by decide +kernel) ?_
    exact pe_iret (by decide +kernel) rfl rfl ⟨0, rfl, Or.inl ⟨rfl, trivial⟩⟩
set_option maxRecDepth 100000 in
set_option maxHeartbeats 8000000 in
theorem CL_32_7_20 {X : pm_X} {d : Nat} {wr : pm_W} {Q : pm_R → Prop} {f : Nat → Int32} {A : Nat → List Int32} {R : Nat → Value} (hX : XO X) (hI : CI f A R) (hR4 : R 4 = .ref 4) (k_54_0 : ∀ (y2 : Int32), (4 ≤ y2.toInt ∧ y2.toInt ≤ 4) → pmE pg X pg_tyl pg_cl (d + 5) 32 54 [.ref 23, .retAddr 34, .int y2] [] (cd f A R wr) Q) (kr_0 : Q (some (.int 0), cd f A R wr, 0, 0)) : ∀ (m : Nat) (x2 : Int32), (0 ≤ x2.toInt ∧ x2.toInt ≤ 4) → 4 - x2.toInt < (m : Int) → pmE pg X pg_tyl pg_cl (d + 5) 32 20 [.ref 23, .retAddr 34, .int x2] [] (cd f A R wr) Q := by
  intro m
  induction m with
  | zero =>
    intro x2 gx2 hm
    exfalso
    have l0 := zi_lo x2
    have u0 := zi_hi x2
    omega
  | succ m ih =>
    intro x2 gx2 hm
    refine pe_iload_n (j := 2) (by decide +kernel) rfl ?_
    refine pe_aloadX_n (j := 1) (by decide +kernel) rfl ?_
    refine pi_V (j := 179) (mj := 33) (by decide +kernel) (cll_T (args := []) (n := 0) (by decide +kernel) rfl rfl (hX 34 (by decide +kernel)) (by decide +kernel) (Nat.le_of_ble_eq_true rfl) (Nat.le_of_ble_eq_true rfl)) ?_
    show pmE pg X pg_tyl pg_cl (d + 4) 33 0 [.retAddr 34] [] (cd f A R wr) _
    refine pe_aloadX_n (j := 0) (by decide +kernel) rfl ?_
    refine pe_getT1 (k := 9) (by decide +kernel) (hX 34 (by decide +kernel)) (by decide +kernel) ?_
    refine pe_alenXv (v := 4) (by decide +kernel) (hX 35 (by decide +kernel)) (by decide +kernel) (by decide +kernel) ?_
    refine pe_aloadX_n (j := 0) (by decide +kernel) rfl ?_
    refine pi_V (j := 335) (mj := 34) (by decide +kernel) (cll_T (args := []) (n := 0) (by decide +kernel) rfl rfl (hX 34 (by decide +kernel)) (by decide +kernel) (Nat.le_of_ble_eq_true rfl) (Nat.le_of_ble_eq_true rfl)) ?_
    show pmE pg X pg_tyl pg_cl (d + 3) 34 0 [.retAddr 34] [] (cd f A R wr) _
    refine pe_getstatic (j := 38) (v := .int 1) (by decide +kernel) (by decide +kernel) ?_
    refine pz_if_eq (off := 10) (t := 13) (by decide +kernel) (by decide) rfl kz_1 (fun h1 => by omega) (fun h1 => ?_)
    refine pe_aloadX_n (j := 0) (by decide +kernel) rfl ?_
    refine pe_getT0 (k := 15) (by decide +kernel) (hX 34 (by decide +kernel)) (by decide +kernel) ?_
    refine pe_goto (off := 4) (t := 14) (by decide +kernel) (by decide) rfl ?_
    refine pe_iret (by decide +kernel) rfl (by decide +kernel) ⟨rfl, rfl, ?_⟩
    show pmE pg X pg_tyl pg_cl (d + 4) 33 9 [.retAddr 34] [.int 0, .int 4] (cd f A R wr) _
    refine pe_ishr (by decide +kernel) ?_
    refine pe_top (v := 4) (by decide +kernel) ?_
    refine pe_iret (by decide +kernel) rfl rfl ⟨rfl, rfl, ?_⟩
    show pmE pg X pg_tyl pg_cl (d + 5) 32 25 [.ref 23, .retAddr 34, .int x2] [.int 4, .int x2] (cd f A R wr) _
    refine pz_icmp_ge (off := 29) (t := 54) (by decide +kernel) (by decide) rfl rfl kz_4 (fun h3 => ?_) (fun h3 => ?_)
    · skip
      exact k_54_0 x2 (by omega)
    · skip
      refine pe_aload_n (j := 0) (by decide +kernel) rfl ?_
      refine pe_aload_n (j := 0) (by decide +kernel) rfl ?_
      refine pe_get (j := 69) (ci := 4) (n := 7) (by decide +kernel) (by decide +kernel) cd_o23 rfl ?_
      have hr_f_375 := cf_375 hI
      refine pe_iload_n (j := 2) (by decide +kernel) rfl ?_
      refine pz_add (by decide +kernel) rfl rfl (by omega) (by omega) (fun z4 hz4 => ?_)
      refine pi_V (j := 184) (mj := 24) (by decide +kernel) (cll_V (args := [.int z4]) (n := 1) (by decide +kernel) rfl rfl cd_o23 (by decide +kernel) (Nat.le_of_ble_eq_true rfl) (Nat.le_of_ble_eq_true rfl)) ?_
      show pmE pg X pg_tyl pg_cl (d + 4) 24 0 [.ref 23, .int z4] [] (cd f A R wr) _
      refine pe_iload_n (j := 1) (by decide +kernel) rfl ?_
      refine pz_if_lt (off := 20) (t := 21) (by decide +kernel) (by decide) rfl hz4 (fun h5 => by omega) (fun h5 => ?_)
      refine pe_iload_n (j := 1) (by decide +kernel) rfl ?_
      refine pe_aload_n (j := 0) (by decide +kernel) rfl ?_
      refine pe_get (j := 43) (ci := 4) (n := 4) (by decide +kernel) (by decide +kernel) cd_o23 rfl ?_
      have hr_f_372 := cf_372 hI
      refine pz_icmp_ge (off := 12) (t := 21) (by decide +kernel) (by decide) rfl hz4 rfl (fun h6 => ?_) (fun h6 => ?_)
      · skip
        refine pe_iconstv (n := (-1)) (v := (-1)) (by decide +kernel) (by decide +kernel) ?_
        refine pe_iret (by decide +kernel) rfl rfl ⟨rfl, rfl, ?_⟩
        show pmE pg X pg_tyl pg_cl (d + 5) 32 38 [.ref 23, .retAddr 34, .int x2] [.int (-1)] (cd f A R wr) _
        refine pe_aloadX_n (j := 1) (by decide +kernel) rfl ?_
        refine pe_iload_n (j := 2) (by decide +kernel) rfl ?_
        refine pi_V (j := 187) (mj := 35) (by decide +kernel) (cll_T (args := [.int x2]) (n := 1) (by decide +kernel) rfl rfl (hX 34 (by decide +kernel)) (by decide +kernel) (Nat.le_of_ble_eq_true rfl) (Nat.le_of_ble_eq_true rfl)) ?_
        show pmE pg X pg_tyl pg_cl (d + 4) 35 0 [.retAddr 34, .int x2] [] (cd f A R wr) _
        refine pe_aloadX_n (j := 0) (by decide +kernel) rfl ?_
        refine pi_V (j := 492) (mj := 36) (by decide +kernel) (cll_T (args := []) (n := 0) (by decide +kernel) rfl rfl (hX 34 (by decide +kernel)) (by decide +kernel) (Nat.le_of_ble_eq_true rfl) (Nat.le_of_ble_eq_true rfl)) ?_
        show pmE pg X pg_tyl pg_cl (d + 3) 36 0 [.retAddr 34] [] (cd f A R wr) _
        refine pe_getstatic (j := 38) (v := .int 1) (by decide +kernel) (by decide +kernel) ?_
        refine pz_if_eq (off := 14) (t := 17) (by decide +kernel) (by decide) rfl kz_1 (fun h7 => by omega) (fun h7 => ?_)
        refine pe_aloadX_n (j := 0) (by decide +kernel) rfl ?_
        refine pe_getT0 (k := 15) (by decide +kernel) (hX 34 (by decide +kernel)) (by decide +kernel) ?_
        refine pz_if_ne (off := 7) (t := 17) (by decide +kernel) (by decide) rfl kz_0 (fun h8 => by omega) (fun h8 => ?_)
        refine pe_iconstv (n := 1) (v := 1) (by decide +kernel) (by decide +kernel) ?_
        refine pe_goto (off := 4) (t := 18) (by decide +kernel) (by decide) rfl ?_
        refine pe_iret (by decide +kernel) rfl rfl ⟨rfl, rfl, ?_⟩
        show pmE pg X pg_tyl pg_cl (d + 4) 35 4 [.retAddr 34, .int x2] [.int 1] (cd f A R wr) _
        refine pz_if_eq (off := 12) (t := 16) (by decide +kernel) (by decide) rfl kz_1 (fun h9 => by omega) (fun h9 => ?_)
        refine pe_aloadX_n (j := 0) (by decide +kernel) rfl ?_
        refine pe_getT1 (k := 9) (by decide +kernel) (hX 34 (by decide +kernel)) (by decide +kernel) ?_
        refine pe_iload_n (j := 1) (by decide +kernel) rfl ?_
        refine pi_S (j := 495) (mj := 37) (by decide +kernel) (by decide +kernel) rfl ?_
        show pmE pg X pg_tyl pg_cl (d + 3) 37 0 [.retAddr 35, .int x2] [] (cd f A R wr) _
        refine pe_iload_n (j := 1) (by decide +kernel) rfl ?_
        refine pe_aloadX_n (j := 0) (by decide +kernel) rfl ?_
        refine pe_alenXv (v := 4) (by decide +kernel) (hX 35 (by decide +kernel)) (by decide +kernel) (by decide +kernel) ?_
        refine pi_S (j := 9) (mj := 38) (by decide +kernel) (by decide +kernel) rfl ?_
        show pmE pg X pg_tyl pg_cl (d + 2) 38 0 [.int x2, .int 4] [] (cd f A R wr) _
        refine pe_iload_n (j := 0) (by decide +kernel) rfl ?_
        refine pe_iload_n (j := 1) (by decide +kernel) rfl ?_
        refine pe_getstatic (j := 1053) (v := .retAddr 99) (by decide +kernel) (by decide +kernel) ?_
        refine pi_S (j := 1059) (mj := 39) (by decide +kernel) (by decide +kernel) rfl ?_
        show pmE pg X pg_tyl pg_cl (d + 1) 39 0 [.int x2, .int 4, .retAddr 99] [] (cd f A R wr) _
        refine pe_iload_n (j := 0) (by decide +kernel) rfl ?_
        refine pz_if_lt (off := 8) (t := 9) (by decide +kernel) (by decide) rfl rfl (fun h10 => by omega) (fun h10 => ?_)
        refine pe_iload_n (j := 0) (by decide +kernel) rfl ?_
        refine pe_iload_n (j := 1) (by decide +kernel) rfl ?_
        refine pz_icmp_lt (off := 10) (t := 16) (by decide +kernel) (by decide) rfl rfl kz_4 (fun h11 => ?_) (fun h11 => by omega)
        refine pe_iload_n (j := 0) (by decide +kernel) rfl ?_
        refine pe_iret (by decide +kernel) rfl rfl ⟨rfl, rfl, ?_⟩
        show pmE pg X pg_tyl pg_cl (d + 2) 38 8 [.int x2, .int 4] [.int x2] (cd f A R wr) _
        refine pe_pop (by decide +kernel) rfl ?_
        refine pe_vret (by decide +kernel) rfl ⟨rfl, rfl, ?_⟩
        show pmE pg X pg_tyl pg_cl (d + 3) 37 6 [.retAddr 35, .int x2] [] (cd f A R wr) _
        refine pe_aloadX_n (j := 0) (by decide +kernel) rfl ?_
        refine pe_iload_n (j := 1) (by decide +kernel) rfl ?_
        refine pz_baldX (by decide +kernel) (hX 35 (by decide +kernel)) rfl rfl (by omega) (by omega) (fun v12 ev12 => ?_)
        have rv12 : 0 ≤ v12.toInt ∧ v12.toInt ≤ 119 := by rw [ev12]; exact lt_all (by decide +kernel) (by decide) _
        refine pe_sipushv (n := 255) (v := 255) (by decide +kernel) (by decide +kernel) ?_
        refine pz_and255 (by decide +kernel) (fun z13 hz13 => ?_)
        refine pz_i2c (by decide +kernel) rfl (by omega) (by omega) (fun z14 hz14 => ?_)
        rw [hz14]
        refine pe_iret (by decide +kernel) rfl (nz_c (by omega)) ⟨rfl, rfl, ?_⟩
        show pmE pg X pg_tyl pg_cl (d + 4) 35 15 [.retAddr 34, .int x2] [.int z13] (cd f A R wr) _
        refine pe_iret (by decide +kernel) rfl (nz_c (by omega)) ⟨rfl, rfl, ?_⟩
        show pmE pg X pg_tyl pg_cl (d + 5) 32 43 [.ref 23, .retAddr 34, .int x2] [.int z13, .int (-1)] (cd f A R wr) _
        refine pz_icmp_eq (off := 5) (t := 48) (by decide +kernel) (by decide) rfl kz_m1 rfl (fun h15 => by omega) (fun h15 => ?_)
        refine pe_iconstv (n := 0) (v := 0) (by decide +kernel) (by decide +kernel) ?_
        exact pe_iret (by decide +kernel) rfl rfl kr_0
      · skip
        refine pe_aload_n (j := 0) (by decide +kernel) rfl ?_
        refine pe_get (j := 29) (ci := 4) (n := 3) (by decide +kernel) (by decide +kernel) cd_o23 rfl ?_
        refine pe_topV (v := .ref 4) (hR4) ?_
        refine pe_iload_n (j := 1) (by decide +kernel) rfl ?_
        refine pz_bald (by decide +kernel) cd_a4 (cl_4 hI) hz4 (by omega) (by omega) (fun v16 ev16 => ?_)
        have rv16 : (-128) ≤ v16.toInt ∧ v16.toInt ≤ 127 := ct_4 hI ev16
        refine pe_goto (off := 4) (t := 22) (by decide +kernel) (by decide) rfl ?_
        refine pe_iret (by decide +kernel) rfl rfl ⟨rfl, rfl, ?_⟩
        show pmE pg X pg_tyl pg_cl (d + 5) 32 38 [.ref 23, .retAddr 34, .int x2] [.int v16] (cd f A R wr) _
        refine pe_aloadX_n (j := 1) (by decide +kernel) rfl ?_
        refine pe_iload_n (j := 2) (by decide +kernel) rfl ?_
        refine pi_V (j := 187) (mj := 35) (by decide +kernel) (cll_T (args := [.int x2]) (n := 1) (by decide +kernel) rfl rfl (hX 34 (by decide +kernel)) (by decide +kernel) (Nat.le_of_ble_eq_true rfl) (Nat.le_of_ble_eq_true rfl)) ?_
        show pmE pg X pg_tyl pg_cl (d + 4) 35 0 [.retAddr 34, .int x2] [] (cd f A R wr) _
        refine pe_aloadX_n (j := 0) (by decide +kernel) rfl ?_
        refine pi_V (j := 492) (mj := 36) (by decide +kernel) (cll_T (args := []) (n := 0) (by decide +kernel) rfl rfl (hX 34 (by decide +kernel)) (by decide +kernel) (Nat.le_of_ble_eq_true rfl) (Nat.le_of_ble_eq_true rfl)) ?_
        show pmE pg X pg_tyl pg_cl (d + 3) 36 0 [.retAddr 34] [] (cd f A R wr) _
        refine pe_getstatic (j := 38) (v := .int 1) (by decide +kernel) (by decide +kernel) ?_
        refine pz_if_eq (off := 14) (t := 17) (by decide +kernel) (by decide) rfl kz_1 (fun h17 => by omega) (fun h17 => ?_)
        refine pe_aloadX_n (j := 0) (by decide +kernel) rfl ?_
        refine pe_getT0 (k := 15) (by decide +kernel) (hX 34 (by decide +kernel)) (by decide +kernel) ?_
        refine pz_if_ne (off := 7) (t := 17) (by decide +kernel) (by decide) rfl kz_0 (fun h18 => by omega) (fun h18 => ?_)
        refine pe_iconstv (n := 1) (v := 1) (by decide +kernel) (by decide +kernel) ?_
        refine pe_goto (off := 4) (t := 18) (by decide +kernel) (by decide) rfl ?_
        refine pe_iret (by decide +kernel) rfl rfl ⟨rfl, rfl, ?_⟩
        show pmE pg X pg_tyl pg_cl (d + 4) 35 4 [.retAddr 34, .int x2] [.int 1] (cd f A R wr) _
        refine pz_if_eq (off := 12) (t := 16) (by decide +kernel) (by decide) rfl kz_1 (fun h19 => by omega) (fun h19 => ?_)
        refine pe_aloadX_n (j := 0) (by decide +kernel) rfl ?_
        refine pe_getT1 (k := 9) (by decide +kernel) (hX 34 (by decide +kernel)) (by decide +kernel) ?_
        refine pe_iload_n (j := 1) (by decide +kernel) rfl ?_
        refine pi_S (j := 495) (mj := 37) (by decide +kernel) (by decide +kernel) rfl ?_
        show pmE pg X pg_tyl pg_cl (d + 3) 37 0 [.retAddr 35, .int x2] [] (cd f A R wr) _
        refine pe_iload_n (j := 1) (by decide +kernel) rfl ?_
        refine pe_aloadX_n (j := 0) (by decide +kernel) rfl ?_
        refine pe_alenXv (v := 4) (by decide +kernel) (hX 35 (by decide +kernel)) (by decide +kernel) (by decide +kernel) ?_
        refine pi_S (j := 9) (mj := 38) (by decide +kernel) (by decide +kernel) rfl ?_
        show pmE pg X pg_tyl pg_cl (d + 2) 38 0 [.int x2, .int 4] [] (cd f A R wr) _
        refine pe_iload_n (j := 0) (by decide +kernel) rfl ?_
        refine pe_iload_n (j := 1) (by decide +kernel) rfl ?_
        refine pe_getstatic (j := 1053) (v := .retAddr 99) (by decide +kernel) (by decide +kernel) ?_
        refine pi_S (j := 1059) (mj := 39) (by decide +kernel) (by decide +kernel) rfl ?_
        show pmE pg X pg_tyl pg_cl (d + 1) 39 0 [.int x2, .int 4, .retAddr 99] [] (cd f A R wr) _
        refine pe_iload_n (j := 0) (by decide +kernel) rfl ?_
        refine pz_if_lt (off := 8) (t := 9) (by decide +kernel) (by decide) rfl rfl (fun h20 => by omega) (fun h20 => ?_)
        refine pe_iload_n (j := 0) (by decide +kernel) rfl ?_
        refine pe_iload_n (j := 1) (by decide +kernel) rfl ?_
        refine pz_icmp_lt (off := 10) (t := 16) (by decide +kernel) (by decide) rfl rfl kz_4 (fun h21 => ?_) (fun h21 => by omega)
        refine pe_iload_n (j := 0) (by decide +kernel) rfl ?_
        refine pe_iret (by decide +kernel) rfl rfl ⟨rfl, rfl, ?_⟩
        show pmE pg X pg_tyl pg_cl (d + 2) 38 8 [.int x2, .int 4] [.int x2] (cd f A R wr) _
        refine pe_pop (by decide +kernel) rfl ?_
        refine pe_vret (by decide +kernel) rfl ⟨rfl, rfl, ?_⟩
        show pmE pg X pg_tyl pg_cl (d + 3) 37 6 [.retAddr 35, .int x2] [] (cd f A R wr) _
        refine pe_aloadX_n (j := 0) (by decide +kernel) rfl ?_
        refine pe_iload_n (j := 1) (by decide +kernel) rfl ?_
        refine pz_baldX (by decide +kernel) (hX 35 (by decide +kernel)) rfl rfl (by omega) (by omega) (fun v22 ev22 => ?_)
        have rv22 : 0 ≤ v22.toInt ∧ v22.toInt ≤ 119 := by rw [ev22]; exact lt_all (by decide +kernel) (by decide) _
        refine pe_sipushv (n := 255) (v := 255) (by decide +kernel) (by decide +kernel) ?_
        refine pz_and255 (by decide +kernel) (fun z23 hz23 => ?_)
        refine pz_i2c (by decide +kernel) rfl (by omega) (by omega) (fun z24 hz24 => ?_)
        rw [hz24]
        refine pe_iret (by decide +kernel) rfl (nz_c (by omega)) ⟨rfl, rfl, ?_⟩
        show pmE pg X pg_tyl pg_cl (d + 4) 35 15 [.retAddr 34, .int x2] [.int z23] (cd f A R wr) _
        refine pe_iret (by decide +kernel) rfl (nz_c (by omega)) ⟨rfl, rfl, ?_⟩
        show pmE pg X pg_tyl pg_cl (d + 5) 32 43 [.ref 23, .retAddr 34, .int x2] [.int z23, .int v16] (cd f A R wr) _
        refine pz_icmp_eq (off := 5) (t := 48) (by decide +kernel) (by decide) rfl rfl rfl (fun h25 => ?_) (fun h25 => ?_)
        · skip
          refine pz_iinc (j := 2) (n := 1) (by decide +kernel) rfl rfl (by decide +kernel) (by omega) (by omega) (fun z26 hz26 => ?_)
          show pmE pg X pg_tyl pg_cl (d + 5) 32 51 [.ref 23, .retAddr 34, .int z26] [] (cd f A R wr) _
          refine pe_goto (off := (-31)) (t := 20) (by decide +kernel) (by decide) rfl ?_
          exact ih z26 (by omega) (by omega)
        · skip
          refine pe_iconstv (n := 0) (v := 0) (by decide +kernel) (by decide +kernel) ?_
          exact pe_iret (by decide +kernel) rfl rfl kr_0
set_option maxRecDepth 100000 in
set_option maxHeartbeats 8000000 in
theorem CM_32_7 {X : pm_X} {d : Nat} {wr : pm_W} {f : Nat → Int32} {A : Nat → List Int32} {R : Nat → Value} (hX : XO X) (hI : CI f A R) (hR4 : R 4 = .ref 4) : pmE pg X pg_tyl pg_cl (d + 5) 32 0 (pm_ent (pm_max pg 32) [.ref 23, .retAddr 34]) [] (cd f A R wr) (fun q => ∃ (r : Int32), q = (some (.int r), cd f A R wr, 0, 0) ∧ ((r = 0 ∧ True) ∨ (r = 1 ∧ True))) := by
  show pmE pg X pg_tyl pg_cl (d + 5) 32 0 [.ref 23, .retAddr 34, pm_dead] [] (cd f A R wr) _
  refine pe_aload_n (j := 0) (by decide +kernel) rfl ?_
  refine pe_get (j := 47) (ci := 4) (n := 5) (by decide +kernel) (by decide +kernel) cd_o23 rfl ?_
  have hr_f_373 := cf_373 hI
  refine pe_aload_n (j := 0) (by decide +kernel) rfl ?_
  refine pe_get (j := 69) (ci := 4) (n := 7) (by decide +kernel) (by decide +kernel) cd_o23 rfl ?_
  have hr_f_375 := cf_375 hI
  refine pz_sub (by decide +kernel) rfl rfl (by omega) (by omega) (fun z1 hz1 => ?_)
  refine pe_aloadX_n (j := 1) (by decide +kernel) rfl ?_
  refine pi_V (j := 179) (mj := 33) (by decide +kernel) (cll_T (args := []) (n := 0) (by decide +kernel) rfl rfl (hX 34 (by decide +kernel)) (by decide +kernel) (Nat.le_of_ble_eq_true rfl) (Nat.le_of_ble_eq_true rfl)) ?_
  show pmE pg X pg_tyl pg_cl (d + 4) 33 0 [.retAddr 34] [] (cd f A R wr) _
  refine pe_aloadX_n (j := 0) (by decide +kernel) rfl ?_
  refine pe_getT1 (k := 9) (by decide +kernel) (hX 34 (by decide +kernel)) (by decide +kernel) ?_
  refine pe_alenXv (v := 4) (by decide +kernel) (hX 35 (by decide +kernel)) (by decide +kernel) (by decide +kernel) ?_
  refine pe_aloadX_n (j := 0) (by decide +kernel) rfl ?_
  refine pi_V (j := 335) (mj := 34) (by decide +kernel) (cll_T (args := []) (n := 0) (by decide +kernel) rfl rfl (hX 34 (by decide +kernel)) (by decide +kernel) (Nat.le_of_ble_eq_true rfl) (Nat.le_of_ble_eq_true rfl)) ?_
  show pmE pg X pg_tyl pg_cl (d + 3) 34 0 [.retAddr 34] [] (cd f A R wr) _
  refine pe_getstatic (j := 38) (v := .int 1) (by decide +kernel) (by decide +kernel) ?_
  refine pz_if_eq (off := 10) (t := 13) (by decide +kernel) (by decide) rfl kz_1 (fun h2 => by omega) (fun h2 => ?_)
  refine pe_aloadX_n (j := 0) (by decide +kernel) rfl ?_
  refine pe_getT0 (k := 15) (by decide +kernel) (hX 34 (by decide +kernel)) (by decide +kernel) ?_
  refine pe_goto (off := 4) (t := 14) (by decide +kernel) (by decide) rfl ?_
  refine pe_iret (by decide +kernel) rfl (by decide +kernel) ⟨rfl, rfl, ?_⟩
  show pmE pg X pg_tyl pg_cl (d + 4) 33 9 [.retAddr 34] [.int 0, .int 4] (cd f A R wr) _
  refine pe_ishr (by decide +kernel) ?_
  refine pe_top (v := 4) (by decide +kernel) ?_
  refine pe_iret (by decide +kernel) rfl rfl ⟨rfl, rfl, ?_⟩
  show pmE pg X pg_tyl pg_cl (d + 5) 32 13 [.ref 23, .retAddr 34, pm_dead] [.int 4, .int z1] (cd f A R wr) _
  refine pz_icmp_eq (off := 5) (t := 18) (by decide +kernel) (by decide) rfl hz1 kz_4 (fun h4 => ?_) (fun h4 => ?_)
  · skip
    clear hz1
    refine pe_iconstv (n := 0) (v := 0) (by decide +kernel) (by decide +kernel) ?_
    refine pe_istore_n (j := 2) (ls' := [.ref 23, .retAddr 34, .int 0]) (by decide +kernel) (Nat.le_of_ble_eq_true rfl) rfl ?_
    refine CL_32_7_20 hX hI (hR4) (fun y5 gy5 => ?_) (⟨0, rfl, Or.inl ⟨rfl, trivial⟩⟩) 5 0 (by decide +kernel) (by decide +kernel)
    refine pe_iconstv (n := 1) (v := 1) (by decide +kernel) (by decide +kernel) ?_
    exact pe_iret (by decide +kernel) rfl rfl ⟨1, rfl, Or.inr (⟨rfl, trivial⟩)⟩
  · skip
    clear hz1
    refine pe_iconstv (n := 0) (v := 0) (by decide +kernel) (by decide +kernel) ?_
    exact pe_iret (by decide +kernel) rfl rfl ⟨0, rfl, Or.inl ⟨rfl, trivial⟩⟩
set_option maxRecDepth 100000 in
set_option maxHeartbeats 8000000 in
theorem CL_32_8_20 {X : pm_X} {d : Nat} {wr : pm_W} {Q : pm_R → Prop} {f : Nat → Int32} {A : Nat → List Int32} {R : Nat → Value} (hX : XO X) (hI : CI f A R) (hR4 : R 4 = .ref 4) (k_54_0 : ∀ (y2 : Int32), (3 ≤ y2.toInt ∧ y2.toInt ≤ 3) → pmE pg X pg_tyl pg_cl (d + 5) 32 54 [.ref 23, .retAddr 36, .int y2] [] (cd f A R wr) Q) (kr_0 : Q (some (.int 0), cd f A R wr, 0, 0)) : ∀ (m : Nat) (x2 : Int32), (0 ≤ x2.toInt ∧ x2.toInt ≤ 3) → 3 - x2.toInt < (m : Int) → pmE pg X pg_tyl pg_cl (d + 5) 32 20 [.ref 23, .retAddr 36, .int x2] [] (cd f A R wr) Q := by
  intro m
  induction m with
  | zero =>
    intro x2 gx2 hm
    exfalso
    have l0 := zi_lo x2
    have u0 := zi_hi x2
    omega
  | succ m ih =>
    intro x2 gx2 hm
    refine pe_iload_n (j := 2) (by decide +kernel) rfl ?_
    refine pe_aloadX_n (j := 1) (by decide +kernel) rfl ?_
    refine pi_V (j := 179) (mj := 33) (by decide +kernel) (cll_T (args := []) (n := 0) (by decide +kernel) rfl rfl (hX 36 (by decide +kernel)) (by decide +kernel) (Nat.le_of_ble_eq_true rfl) (Nat.le_of_ble_eq_true rfl)) ?_
    show pmE pg X pg_tyl pg_cl (d + 4) 33 0 [.retAddr 36] [] (cd f A R wr) _
    refine pe_aloadX_n (j := 0) (by decide +kernel) rfl ?_
    refine pe_getT1 (k := 9) (by decide +kernel) (hX 36 (by decide +kernel)) (by decide +kernel) ?_
    refine pe_alenXv (v := 3) (by decide +kernel) (hX 37 (by decide +kernel)) (by decide +kernel) (by decide +kernel) ?_
    refine pe_aloadX_n (j := 0) (by decide +kernel) rfl ?_
    refine pi_V (j := 335) (mj := 34) (by decide +kernel) (cll_T (args := []) (n := 0) (by decide +kernel) rfl rfl (hX 36 (by decide +kernel)) (by decide +kernel) (Nat.le_of_ble_eq_true rfl) (Nat.le_of_ble_eq_true rfl)) ?_
    show pmE pg X pg_tyl pg_cl (d + 3) 34 0 [.retAddr 36] [] (cd f A R wr) _
    refine pe_getstatic (j := 38) (v := .int 1) (by decide +kernel) (by decide +kernel) ?_
    refine pz_if_eq (off := 10) (t := 13) (by decide +kernel) (by decide) rfl kz_1 (fun h1 => by omega) (fun h1 => ?_)
    refine pe_aloadX_n (j := 0) (by decide +kernel) rfl ?_
    refine pe_getT0 (k := 15) (by decide +kernel) (hX 36 (by decide +kernel)) (by decide +kernel) ?_
    refine pe_goto (off := 4) (t := 14) (by decide +kernel) (by decide) rfl ?_
    refine pe_iret (by decide +kernel) rfl (by decide +kernel) ⟨rfl, rfl, ?_⟩
    show pmE pg X pg_tyl pg_cl (d + 4) 33 9 [.retAddr 36] [.int 0, .int 3] (cd f A R wr) _
    refine pe_ishr (by decide +kernel) ?_
    refine pe_top (v := 3) (by decide +kernel) ?_
    refine pe_iret (by decide +kernel) rfl rfl ⟨rfl, rfl, ?_⟩
    show pmE pg X pg_tyl pg_cl (d + 5) 32 25 [.ref 23, .retAddr 36, .int x2] [.int 3, .int x2] (cd f A R wr) _
    refine pz_icmp_ge (off := 29) (t := 54) (by decide +kernel) (by decide) rfl rfl kz_3 (fun h3 => ?_) (fun h3 => ?_)
    · skip
      exact k_54_0 x2 (by omega)
    · skip
      refine pe_aload_n (j := 0) (by decide +kernel) rfl ?_
      refine pe_aload_n (j := 0) (by decide +kernel) rfl ?_
      refine pe_get (j := 69) (ci := 4) (n := 7) (by decide +kernel) (by decide +kernel) cd_o23 rfl ?_
      have hr_f_375 := cf_375 hI
      refine pe_iload_n (j := 2) (by decide +kernel) rfl ?_
      refine pz_add (by decide +kernel) rfl rfl (by omega) (by omega) (fun z4 hz4 => ?_)
      refine pi_V (j := 184) (mj := 24) (by decide +kernel) (cll_V (args := [.int z4]) (n := 1) (by decide +kernel) rfl rfl cd_o23 (by decide +kernel) (Nat.le_of_ble_eq_true rfl) (Nat.le_of_ble_eq_true rfl)) ?_
      show pmE pg X pg_tyl pg_cl (d + 4) 24 0 [.ref 23, .int z4] [] (cd f A R wr) _
      refine pe_iload_n (j := 1) (by decide +kernel) rfl ?_
      refine pz_if_lt (off := 20) (t := 21) (by decide +kernel) (by decide) rfl hz4 (fun h5 => by omega) (fun h5 => ?_)
      refine pe_iload_n (j := 1) (by decide +kernel) rfl ?_
      refine pe_aload_n (j := 0) (by decide +kernel) rfl ?_
      refine pe_get (j := 43) (ci := 4) (n := 4) (by decide +kernel) (by decide +kernel) cd_o23 rfl ?_
      have hr_f_372 := cf_372 hI
      refine pz_icmp_ge (off := 12) (t := 21) (by decide +kernel) (by decide) rfl hz4 rfl (fun h6 => ?_) (fun h6 => ?_)
      · skip
        refine pe_iconstv (n := (-1)) (v := (-1)) (by decide +kernel) (by decide +kernel) ?_
        refine pe_iret (by decide +kernel) rfl rfl ⟨rfl, rfl, ?_⟩
        show pmE pg X pg_tyl pg_cl (d + 5) 32 38 [.ref 23, .retAddr 36, .int x2] [.int (-1)] (cd f A R wr) _
        refine pe_aloadX_n (j := 1) (by decide +kernel) rfl ?_
        refine pe_iload_n (j := 2) (by decide +kernel) rfl ?_
        refine pi_V (j := 187) (mj := 35) (by decide +kernel) (cll_T (args := [.int x2]) (n := 1) (by decide +kernel) rfl rfl (hX 36 (by decide +kernel)) (by decide +kernel) (Nat.le_of_ble_eq_true rfl) (Nat.le_of_ble_eq_true rfl)) ?_
        show pmE pg X pg_tyl pg_cl (d + 4) 35 0 [.retAddr 36, .int x2] [] (cd f A R wr) _
        refine pe_aloadX_n (j := 0) (by decide +kernel) rfl ?_
        refine pi_V (j := 492) (mj := 36) (by decide +kernel) (cll_T (args := []) (n := 0) (by decide +kernel) rfl rfl (hX 36 (by decide +kernel)) (by decide +kernel) (Nat.le_of_ble_eq_true rfl) (Nat.le_of_ble_eq_true rfl)) ?_
        show pmE pg X pg_tyl pg_cl (d + 3) 36 0 [.retAddr 36] [] (cd f A R wr) _
        refine pe_getstatic (j := 38) (v := .int 1) (by decide +kernel) (by decide +kernel) ?_
        refine pz_if_eq (off := 14) (t := 17) (by decide +kernel) (by decide) rfl kz_1 (fun h7 => by omega) (fun h7 => ?_)
        refine pe_aloadX_n (j := 0) (by decide +kernel) rfl ?_
        refine pe_getT0 (k := 15) (by decide +kernel) (hX 36 (by decide +kernel)) (by decide +kernel) ?_
        refine pz_if_ne (off := 7) (t := 17) (by decide +kernel) (by decide) rfl kz_0 (fun h8 => by omega) (fun h8 => ?_)
        refine pe_iconstv (n := 1) (v := 1) (by decide +kernel) (by decide +kernel) ?_
        refine pe_goto (off := 4) (t := 18) (by decide +kernel) (by decide) rfl ?_
        refine pe_iret (by decide +kernel) rfl rfl ⟨rfl, rfl, ?_⟩
        show pmE pg X pg_tyl pg_cl (d + 4) 35 4 [.retAddr 36, .int x2] [.int 1] (cd f A R wr) _
        refine pz_if_eq (off := 12) (t := 16) (by decide +kernel) (by decide) rfl kz_1 (fun h9 => by omega) (fun h9 => ?_)
        refine pe_aloadX_n (j := 0) (by decide +kernel) rfl ?_
        refine pe_getT1 (k := 9) (by decide +kernel) (hX 36 (by decide +kernel)) (by decide +kernel) ?_
        refine pe_iload_n (j := 1) (by decide +kernel) rfl ?_
        refine pi_S (j := 495) (mj := 37) (by decide +kernel) (by decide +kernel) rfl ?_
        show pmE pg X pg_tyl pg_cl (d + 3) 37 0 [.retAddr 37, .int x2] [] (cd f A R wr) _
        refine pe_iload_n (j := 1) (by decide +kernel) rfl ?_
        refine pe_aloadX_n (j := 0) (by decide +kernel) rfl ?_
        refine pe_alenXv (v := 3) (by decide +kernel) (hX 37 (by decide +kernel)) (by decide +kernel) (by decide +kernel) ?_
        refine pi_S (j := 9) (mj := 38) (by decide +kernel) (by decide +kernel) rfl ?_
        show pmE pg X pg_tyl pg_cl (d + 2) 38 0 [.int x2, .int 3] [] (cd f A R wr) _
        refine pe_iload_n (j := 0) (by decide +kernel) rfl ?_
        refine pe_iload_n (j := 1) (by decide +kernel) rfl ?_
        refine pe_getstatic (j := 1053) (v := .retAddr 99) (by decide +kernel) (by decide +kernel) ?_
        refine pi_S (j := 1059) (mj := 39) (by decide +kernel) (by decide +kernel) rfl ?_
        show pmE pg X pg_tyl pg_cl (d + 1) 39 0 [.int x2, .int 3, .retAddr 99] [] (cd f A R wr) _
        refine pe_iload_n (j := 0) (by decide +kernel) rfl ?_
        refine pz_if_lt (off := 8) (t := 9) (by decide +kernel) (by decide) rfl rfl (fun h10 => by omega) (fun h10 => ?_)
        refine pe_iload_n (j := 0) (by decide +kernel) rfl ?_
        refine pe_iload_n (j := 1) (by decide +kernel) rfl ?_
        refine pz_icmp_lt (off := 10) (t := 16) (by decide +kernel) (by decide) rfl rfl kz_3 (fun h11 => ?_) (fun h11 => by omega)
        refine pe_iload_n (j := 0) (by decide +kernel) rfl ?_
        refine pe_iret (by decide +kernel) rfl rfl ⟨rfl, rfl, ?_⟩
        show pmE pg X pg_tyl pg_cl (d + 2) 38 8 [.int x2, .int 3] [.int x2] (cd f A R wr) _
        refine pe_pop (by decide +kernel) rfl ?_
        refine pe_vret (by decide +kernel) rfl ⟨rfl, rfl, ?_⟩
        show pmE pg X pg_tyl pg_cl (d + 3) 37 6 [.retAddr 37, .int x2] [] (cd f A R wr) _
        refine pe_aloadX_n (j := 0) (by decide +kernel) rfl ?_
        refine pe_iload_n (j := 1) (by decide +kernel) rfl ?_
        refine pz_baldX (by decide +kernel) (hX 37 (by decide +kernel)) rfl rfl (by omega) (by omega) (fun v12 ev12 => ?_)
        have rv12 : 0 ≤ v12.toInt ∧ v12.toInt ≤ 108 := by rw [ev12]; exact lt_all (by decide +kernel) (by decide) _
        refine pe_sipushv (n := 255) (v := 255) (by decide +kernel) (by decide +kernel) ?_
        refine pz_and255 (by decide +kernel) (fun z13 hz13 => ?_)
        refine pz_i2c (by decide +kernel) rfl (by omega) (by omega) (fun z14 hz14 => ?_)
        rw [hz14]
        refine pe_iret (by decide +kernel) rfl (nz_c (by omega)) ⟨rfl, rfl, ?_⟩
        show pmE pg X pg_tyl pg_cl (d + 4) 35 15 [.retAddr 36, .int x2] [.int z13] (cd f A R wr) _
        refine pe_iret (by decide +kernel) rfl (nz_c (by omega)) ⟨rfl, rfl, ?_⟩
        show pmE pg X pg_tyl pg_cl (d + 5) 32 43 [.ref 23, .retAddr 36, .int x2] [.int z13, .int (-1)] (cd f A R wr) _
        refine pz_icmp_eq (off := 5) (t := 48) (by decide +kernel) (by decide) rfl kz_m1 rfl (fun h15 => by omega) (fun h15 => ?_)
        refine pe_iconstv (n := 0) (v := 0) (by decide +kernel) (by decide +kernel) ?_
        exact pe_iret (by decide +kernel) rfl rfl kr_0
      · skip
        refine pe_aload_n (j := 0) (by decide +kernel) rfl ?_
        refine pe_get (j := 29) (ci := 4) (n := 3) (by decide +kernel) (by decide +kernel) cd_o23 rfl ?_
        refine pe_topV (v := .ref 4) (hR4) ?_
        refine pe_iload_n (j := 1) (by decide +kernel) rfl ?_
        refine pz_bald (by decide +kernel) cd_a4 (cl_4 hI) hz4 (by omega) (by omega) (fun v16 ev16 => ?_)
        have rv16 : (-128) ≤ v16.toInt ∧ v16.toInt ≤ 127 := ct_4 hI ev16
        refine pe_goto (off := 4) (t := 22) (by decide +kernel) (by decide) rfl ?_
        refine pe_iret (by decide +kernel) rfl rfl ⟨rfl, rfl, ?_⟩
        show pmE pg X pg_tyl pg_cl (d + 5) 32 38 [.ref 23, .retAddr 36, .int x2] [.int v16] (cd f A R wr) _
        refine pe_aloadX_n (j := 1) (by decide +kernel) rfl ?_
        refine pe_iload_n (j := 2) (by decide +kernel) rfl ?_
        refine pi_V (j := 187) (mj := 35) (by decide +kernel) (cll_T (args := [.int x2]) (n := 1) (by decide +kernel) rfl rfl (hX 36 (by decide +kernel)) (by decide +kernel) (Nat.le_of_ble_eq_true rfl) (Nat.le_of_ble_eq_true rfl)) ?_
        show pmE pg X pg_tyl pg_cl (d + 4) 35 0 [.retAddr 36, .int x2] [] (cd f A R wr) _
        refine pe_aloadX_n (j := 0) (by decide +kernel) rfl ?_
        refine pi_V (j := 492) (mj := 36) (by decide +kernel) (cll_T (args := []) (n := 0) (by decide +kernel) rfl rfl (hX 36 (by decide +kernel)) (by decide +kernel) (Nat.le_of_ble_eq_true rfl) (Nat.le_of_ble_eq_true rfl)) ?_
        show pmE pg X pg_tyl pg_cl (d + 3) 36 0 [.retAddr 36] [] (cd f A R wr) _
        refine pe_getstatic (j := 38) (v := .int 1) (by decide +kernel) (by decide +kernel) ?_
        refine pz_if_eq (off := 14) (t := 17) (by decide +kernel) (by decide) rfl kz_1 (fun h17 => by omega) (fun h17 => ?_)
        refine pe_aloadX_n (j := 0) (by decide +kernel) rfl ?_
        refine pe_getT0 (k := 15) (by decide +kernel) (hX 36 (by decide +kernel)) (by decide +kernel) ?_
        refine pz_if_ne (off := 7) (t := 17) (by decide +kernel) (by decide) rfl kz_0 (fun h18 => by omega) (fun h18 => ?_)
        refine pe_iconstv (n := 1) (v := 1) (by decide +kernel) (by decide +kernel) ?_
        refine pe_goto (off := 4) (t := 18) (by decide +kernel) (by decide) rfl ?_
        refine pe_iret (by decide +kernel) rfl rfl ⟨rfl, rfl, ?_⟩
        show pmE pg X pg_tyl pg_cl (d + 4) 35 4 [.retAddr 36, .int x2] [.int 1] (cd f A R wr) _
        refine pz_if_eq (off := 12) (t := 16) (by decide +kernel) (by decide) rfl kz_1 (fun h19 => by omega) (fun h19 => ?_)
        refine pe_aloadX_n (j := 0) (by decide +kernel) rfl ?_
        refine pe_getT1 (k := 9) (by decide +kernel) (hX 36 (by decide +kernel)) (by decide +kernel) ?_
        refine pe_iload_n (j := 1) (by decide +kernel) rfl ?_
        refine pi_S (j := 495) (mj := 37) (by decide +kernel) (by decide +kernel) rfl ?_
        show pmE pg X pg_tyl pg_cl (d + 3) 37 0 [.retAddr 37, .int x2] [] (cd f A R wr) _
        refine pe_iload_n (j := 1) (by decide +kernel) rfl ?_
        refine pe_aloadX_n (j := 0) (by decide +kernel) rfl ?_
        refine pe_alenXv (v := 3) (by decide +kernel) (hX 37 (by decide +kernel)) (by decide +kernel) (by decide +kernel) ?_
        refine pi_S (j := 9) (mj := 38) (by decide +kernel) (by decide +kernel) rfl ?_
        show pmE pg X pg_tyl pg_cl (d + 2) 38 0 [.int x2, .int 3] [] (cd f A R wr) _
        refine pe_iload_n (j := 0) (by decide +kernel) rfl ?_
        refine pe_iload_n (j := 1) (by decide +kernel) rfl ?_
        refine pe_getstatic (j := 1053) (v := .retAddr 99) (by decide +kernel) (by decide +kernel) ?_
        refine pi_S (j := 1059) (mj := 39) (by decide +kernel) (by decide +kernel) rfl ?_
        show pmE pg X pg_tyl pg_cl (d + 1) 39 0 [.int x2, .int 3, .retAddr 99] [] (cd f A R wr) _
        refine pe_iload_n (j := 0) (by decide +kernel) rfl ?_
        refine pz_if_lt (off := 8) (t := 9) (by decide +kernel) (by decide) rfl rfl (fun h20 => by omega) (fun h20 => ?_)
        refine pe_iload_n (j := 0) (by decide +kernel) rfl ?_
        refine pe_iload_n (j := 1) (by decide +kernel) rfl ?_
        refine pz_icmp_lt (off := 10) (t := 16) (by decide +kernel) (by decide) rfl rfl kz_3 (fun h21 => ?_) (fun h21 => by omega)
        refine pe_iload_n (j := 0) (by decide +kernel) rfl ?_
        refine pe_iret (by decide +kernel) rfl rfl ⟨rfl, rfl, ?_⟩
        show pmE pg X pg_tyl pg_cl (d + 2) 38 8 [.int x2, .int 3] [.int x2] (cd f A R wr) _
        refine pe_pop (by decide +kernel) rfl ?_
        refine pe_vret (by decide +kernel) rfl ⟨rfl, rfl, ?_⟩
        show pmE pg X pg_tyl pg_cl (d + 3) 37 6 [.retAddr 37, .int x2] [] (cd f A R wr) _
        refine pe_aloadX_n (j := 0) (by decide +kernel) rfl ?_
        refine pe_iload_n (j := 1) (by decide +kernel) rfl ?_
        refine pz_baldX (by decide +kernel) (hX 37 (by decide +kernel)) rfl rfl (by omega) (by omega) (fun v22 ev22 => ?_)
        have rv22 : 0 ≤ v22.toInt ∧ v22.toInt ≤ 108 := by rw [ev22]; exact lt_all (by decide +kernel) (by decide) _
        refine pe_sipushv (n := 255) (v := 255) (by decide +kernel) (by decide +kernel) ?_
        refine pz_and255 (by decide +kernel) (fun z23 hz23 => ?_)
        refine pz_i2c (by decide +kernel) rfl (by omega) (by omega) (fun z24 hz24 => ?_)
        rw [hz24]
        refine pe_iret (by decide +kernel) rfl (nz_c (by omega)) ⟨rfl, rfl, ?_⟩
        show pmE pg X pg_tyl pg_cl (d + 4) 35 15 [.retAddr 36, .int x2] [.int z23] (cd f A R wr) _
        refine pe_iret (by decide +kernel) rfl (nz_c (by omega)) ⟨rfl, rfl, ?_⟩
        show pmE pg X pg_tyl pg_cl (d + 5) 32 43 [.ref 23, .retAddr 36, .int x2] [.int z23, .int v16] (cd f A R wr) _
        refine pz_icmp_eq (off := 5) (t := 48) (by decide +kernel) (by decide) rfl rfl rfl (fun h25 => ?_) (fun h25 => ?_)
        · skip
          refine pz_iinc (j := 2) (n := 1) (by decide +kernel) rfl rfl (by decide +kernel) (by omega) (by omega) (fun z26 hz26 => ?_)
          show pmE pg X pg_tyl pg_cl (d + 5) 32 51 [.ref 23, .retAddr 36, .int z26] [] (cd f A R wr) _
          refine pe_goto (off := (-31)) (t := 20) (by decide +kernel) (by decide) rfl ?_
          exact ih z26 (by omega) (by omega)
        · skip
          refine pe_iconstv (n := 0) (v := 0) (by decide +kernel) (by decide +kernel) ?_
          exact pe_iret (by decide +kernel) rfl rfl kr_0
set_option maxRecDepth 100000 in
set_option maxHeartbeats 8000000 in
theorem CM_32_8 {X : pm_X} {d : Nat} {wr : pm_W} {f : Nat → Int32} {A : Nat → List Int32} {R : Nat → Value} (hX : XO X) (hI : CI f A R) (hR4 : R 4 = .ref 4) : pmE pg X pg_tyl pg_cl (d + 5) 32 0 (pm_ent (pm_max pg 32) [.ref 23, .retAddr 36]) [] (cd f A R wr) (fun q => ∃ (r : Int32), q = (some (.int r), cd f A R wr, 0, 0) ∧ ((r = 0 ∧ True) ∨ (r = 1 ∧ True))) := by
  show pmE pg X pg_tyl pg_cl (d + 5) 32 0 [.ref 23, .retAddr 36, pm_dead] [] (cd f A R wr) _
  refine pe_aload_n (j := 0) (by decide +kernel) rfl ?_
  refine pe_get (j := 47) (ci := 4) (n := 5) (by decide +kernel) (by decide +kernel) cd_o23 rfl ?_
  have hr_f_373 := cf_373 hI
  refine pe_aload_n (j := 0) (by decide +kernel) rfl ?_
  refine pe_get (j := 69) (ci := 4) (n := 7) (by decide +kernel) (by decide +kernel) cd_o23 rfl ?_
  have hr_f_375 := cf_375 hI
  refine pz_sub (by decide +kernel) rfl rfl (by omega) (by omega) (fun z1 hz1 => ?_)
  refine pe_aloadX_n (j := 1) (by decide +kernel) rfl ?_
  refine pi_V (j := 179) (mj := 33) (by decide +kernel) (cll_T (args := []) (n := 0) (by decide +kernel) rfl rfl (hX 36 (by decide +kernel)) (by decide +kernel) (Nat.le_of_ble_eq_true rfl) (Nat.le_of_ble_eq_true rfl)) ?_
  show pmE pg X pg_tyl pg_cl (d + 4) 33 0 [.retAddr 36] [] (cd f A R wr) _
  refine pe_aloadX_n (j := 0) (by decide +kernel) rfl ?_
  refine pe_getT1 (k := 9) (by decide +kernel) (hX 36 (by decide +kernel)) (by decide +kernel) ?_
  refine pe_alenXv (v := 3) (by decide +kernel) (hX 37 (by decide +kernel)) (by decide +kernel) (by decide +kernel) ?_
  refine pe_aloadX_n (j := 0) (by decide +kernel) rfl ?_
  refine pi_V (j := 335) (mj := 34) (by decide +kernel) (cll_T (args := []) (n := 0) (by decide +kernel) rfl rfl (hX 36 (by decide +kernel)) (by decide +kernel) (Nat.le_of_ble_eq_true rfl) (Nat.le_of_ble_eq_true rfl)) ?_
  show pmE pg X pg_tyl pg_cl (d + 3) 34 0 [.retAddr 36] [] (cd f A R wr) _
  refine pe_getstatic (j := 38) (v := .int 1) (by decide +kernel) (by decide +kernel) ?_
  refine pz_if_eq (off := 10) (t := 13) (by decide +kernel) (by decide) rfl kz_1 (fun h2 => by omega) (fun h2 => ?_)
  refine pe_aloadX_n (j := 0) (by decide +kernel) rfl ?_
  refine pe_getT0 (k := 15) (by decide +kernel) (hX 36 (by decide +kernel)) (by decide +kernel) ?_
  refine pe_goto (off := 4) (t := 14) (by decide +kernel) (by decide) rfl ?_
  refine pe_iret (by decide +kernel) rfl (by decide +kernel) ⟨rfl, rfl, ?_⟩
  show pmE pg X pg_tyl pg_cl (d + 4) 33 9 [.retAddr 36] [.int 0, .int 3] (cd f A R wr) _
  refine pe_ishr (by decide +kernel) ?_
  refine pe_top (v := 3) (by decide +kernel) ?_
  refine pe_iret (by decide +kernel) rfl rfl ⟨rfl, rfl, ?_⟩
  show pmE pg X pg_tyl pg_cl (d + 5) 32 13 [.ref 23, .retAddr 36, pm_dead] [.int 3, .int z1] (cd f A R wr) _
  refine pz_icmp_eq (off := 5) (t := 18) (by decide +kernel) (by decide) rfl hz1 kz_3 (fun h4 => ?_) (fun h4 => ?_)
  · skip
    clear hz1
    refine pe_iconstv (n := 0) (v := 0) (by decide +kernel) (by decide +kernel) ?_
    refine pe_istore_n (j := 2) (ls' := [.ref 23, .retAddr 36, .int 0]) (by decide +kernel) (Nat.le_of_ble_eq_true rfl) rfl ?_
    refine CL_32_8_20 hX hI (hR4) (fun y5 gy5 => ?_) (⟨0, rfl, Or.inl ⟨rfl, trivial⟩⟩) 4 0 (by decide +kernel) (by decide +kernel)
    refine pe_iconstv (n := 1) (v := 1) (by decide +kernel) (by decide +kernel) ?_
    exact pe_iret (by decide +kernel) rfl rfl ⟨1, rfl, Or.inr (⟨rfl, trivial⟩)⟩
  · skip
    clear hz1
    refine pe_iconstv (n := 0) (v := 0) (by decide +kernel) (by decide +kernel) ?_
    exact pe_iret (by decide +kernel) rfl rfl ⟨0, rfl, Or.inl ⟨rfl, trivial⟩⟩
set_option maxRecDepth 100000 in
set_option maxHeartbeats 8000000 in
theorem CL_32_9_20 {X : pm_X} {d : Nat} {wr : pm_W} {Q : pm_R → Prop} {f : Nat → Int32} {A : Nat → List Int32} {R : Nat → Value} (hX : XO X) (hI : CI f A R) (hR4 : R 4 = .ref 4) (k_54_0 : ∀ (y2 : Int32), (3 ≤ y2.toInt ∧ y2.toInt ≤ 3) → pmE pg X pg_tyl pg_cl (d + 5) 32 54 [.ref 23, .retAddr 38, .int y2] [] (cd f A R wr) Q) (kr_0 : Q (some (.int 0), cd f A R wr, 0, 0)) : ∀ (m : Nat) (x2 : Int32), (0 ≤ x2.toInt ∧ x2.toInt ≤ 3) → 3 - x2.toInt < (m : Int) → pmE pg X pg_tyl pg_cl (d + 5) 32 20 [.ref 23, .retAddr 38, .int x2] [] (cd f A R wr) Q := by
  intro m
  induction m with
  | zero =>
    intro x2 gx2 hm
    exfalso
    have l0 := zi_lo x2
    have u0 := zi_hi x2
    omega
  | succ m ih =>
    intro x2 gx2 hm
    refine pe_iload_n (j := 2) (by decide +kernel) rfl ?_
    refine pe_aloadX_n (j := 1) (by decide +kernel) rfl ?_
    refine pi_V (j := 179) (mj := 33) (by decide +kernel) (cll_T (args := []) (n := 0) (by decide +kernel) rfl rfl (hX 38 (by decide +kernel)) (by decide +kernel) (Nat.le_of_ble_eq_true rfl) (Nat.le_of_ble_eq_true rfl)) ?_
    show pmE pg X pg_tyl pg_cl (d + 4) 33 0 [.retAddr 38] [] (cd f A R wr) _
    refine pe_aloadX_n (j := 0) (by decide +kernel) rfl ?_
    refine pe_getT1 (k := 9) (by decide +kernel) (hX 38 (by decide +kernel)) (by decide +kernel) ?_
    refine pe_alenXv (v := 3) (by decide +kernel) (hX 39 (by decide +kernel)) (by decide +kernel) (by decide +kernel) ?_
    refine pe_aloadX_n (j := 0) (by decide +kernel) rfl ?_
    refine pi_V (j := 335) (mj := 34) (by decide +kernel) (cll_T (args := []) (n := 0) (by decide +kernel) rfl rfl (hX 38 (by decide +kernel)) (by decide +kernel) (Nat.le_of_ble_eq_true rfl) (Nat.le_of_ble_eq_true rfl)) ?_
    show pmE pg X pg_tyl pg_cl (d + 3) 34 0 [.retAddr 38] [] (cd f A R wr) _
    refine pe_getstatic (j := 38) (v := .int 1) (by decide +kernel) (by decide +kernel) ?_
    refine pz_if_eq (off := 10) (t := 13) (by decide +kernel) (by decide) rfl kz_1 (fun h1 => by omega) (fun h1 => ?_)
    refine pe_aloadX_n (j := 0) (by decide +kernel) rfl ?_
    refine pe_getT0 (k := 15) (by decide +kernel) (hX 38 (by decide +kernel)) (by decide +kernel) ?_
    refine pe_goto (off := 4) (t := 14) (by decide +kernel) (by decide) rfl ?_
    refine pe_iret (by decide +kernel) rfl (by decide +kernel) ⟨rfl, rfl, ?_⟩
    show pmE pg X pg_tyl pg_cl (d + 4) 33 9 [.retAddr 38] [.int 0, .int 3] (cd f A R wr) _
    refine pe_ishr (by decide +kernel) ?_
    refine pe_top (v := 3) (by decide +kernel) ?_
    refine pe_iret (by decide +kernel) rfl rfl ⟨rfl, rfl, ?_⟩
    show pmE pg X pg_tyl pg_cl (d + 5) 32 25 [.ref 23, .retAddr 38, .int x2] [.int 3, .int x2] (cd f A R wr) _
    refine pz_icmp_ge (off := 29) (t := 54) (by decide +kernel) (by decide) rfl rfl kz_3 (fun h3 => ?_) (fun h3 => ?_)
    · skip
      exact k_54_0 x2 (by omega)
    · skip
      refine pe_aload_n (j := 0) (by decide +kernel) rfl ?_
      refine pe_aload_n (j := 0) (by decide +kernel) rfl ?_
      refine pe_get (j := 69) (ci := 4) (n := 7) (by decide +kernel) (by decide +kernel) cd_o23 rfl ?_
      have hr_f_375 := cf_375 hI
      refine pe_iload_n (j := 2) (by decide +kernel) rfl ?_
      refine pz_add (by decide +kernel) rfl rfl (by omega) (by omega) (fun z4 hz4 => ?_)
      refine pi_V (j := 184) (mj := 24) (by decide +kernel) (cll_V (args := [.int z4]) (n := 1) (by decide +kernel) rfl rfl cd_o23 (by decide +kernel) (Nat.le_of_ble_eq_true rfl) (Nat.le_of_ble_eq_true rfl)) ?_
      show pmE pg X pg_tyl pg_cl (d + 4) 24 0 [.ref 23, .int z4] [] (cd f A R wr) _
      refine pe_iload_n (j := 1) (by decide +kernel) rfl ?_
      refine pz_if_lt (off := 20) (t := 21) (by decide +kernel) (by decide) rfl hz4 (fun h5 => by omega) (fun h5 => ?_)
      refine pe_iload_n (j := 1) (by decide +kernel) rfl ?_
      refine pe_aload_n (j := 0) (by decide +kernel) rfl ?_
      refine pe_get (j := 43) (ci := 4) (n := 4) (by decide +kernel) (by decide +kernel) cd_o23 rfl ?_
      have hr_f_372 := cf_372 hI
      refine pz_icmp_ge (off := 12) (t := 21) (by decide +kernel) (by decide) rfl hz4 rfl (fun h6 => ?_) (fun h6 => ?_)
      · skip
        refine pe_iconstv (n := (-1)) (v := (-1)) (by decide +kernel) (by decide +kernel) ?_
        refine pe_iret (by decide +kernel) rfl rfl ⟨rfl, rfl, ?_⟩
        show pmE pg X pg_tyl pg_cl (d + 5) 32 38 [.ref 23, .retAddr 38, .int x2] [.int (-1)] (cd f A R wr) _
        refine pe_aloadX_n (j := 1) (by decide +kernel) rfl ?_
        refine pe_iload_n (j := 2) (by decide +kernel) rfl ?_
        refine pi_V (j := 187) (mj := 35) (by decide +kernel) (cll_T (args := [.int x2]) (n := 1) (by decide +kernel) rfl rfl (hX 38 (by decide +kernel)) (by decide +kernel) (Nat.le_of_ble_eq_true rfl) (Nat.le_of_ble_eq_true rfl)) ?_
        show pmE pg X pg_tyl pg_cl (d + 4) 35 0 [.retAddr 38, .int x2] [] (cd f A R wr) _
        refine pe_aloadX_n (j := 0) (by decide +kernel) rfl ?_
        refine pi_V (j := 492) (mj := 36) (by decide +kernel) (cll_T (args := []) (n := 0) (by decide +kernel) rfl rfl (hX 38 (by decide +kernel)) (by decide +kernel) (Nat.le_of_ble_eq_true rfl) (Nat.le_of_ble_eq_true rfl)) ?_
        show pmE pg X pg_tyl pg_cl (d + 3) 36 0 [.retAddr 38] [] (cd f A R wr) _
        refine pe_getstatic (j := 38) (v := .int 1) (by decide +kernel) (by decide +kernel) ?_
        refine pz_if_eq (off := 14) (t := 17) (by decide +kernel) (by decide) rfl kz_1 (fun h7 => by omega) (fun h7 => ?_)
        refine pe_aloadX_n (j := 0) (by decide +kernel) rfl ?_
        refine pe_getT0 (k := 15) (by decide +kernel) (hX 38 (by decide +kernel)) (by decide +kernel) ?_
        refine pz_if_ne (off := 7) (t := 17) (by decide +kernel) (by decide) rfl kz_0 (fun h8 => by omega) (fun h8 => ?_)
        refine pe_iconstv (n := 1) (v := 1) (by decide +kernel) (by decide +kernel) ?_
        refine pe_goto (off := 4) (t := 18) (by decide +kernel) (by decide) rfl ?_
        refine pe_iret (by decide +kernel) rfl rfl ⟨rfl, rfl, ?_⟩
        show pmE pg X pg_tyl pg_cl (d + 4) 35 4 [.retAddr 38, .int x2] [.int 1] (cd f A R wr) _
        refine pz_if_eq (off := 12) (t := 16) (by decide +kernel) (by decide) rfl kz_1 (fun h9 => by omega) (fun h9 => ?_)
        refine pe_aloadX_n (j := 0) (by decide +kernel) rfl ?_
        refine pe_getT1 (k := 9) (by decide +kernel) (hX 38 (by decide +kernel)) (by decide +kernel) ?_
        refine pe_iload_n (j := 1) (by decide +kernel) rfl ?_
        refine pi_S (j := 495) (mj := 37) (by decide +kernel) (by decide +kernel) rfl ?_
        show pmE pg X pg_tyl pg_cl (d + 3) 37 0 [.retAddr 39, .int x2] [] (cd f A R wr) _
        refine pe_iload_n (j := 1) (by decide +kernel) rfl ?_
        refine pe_aloadX_n (j := 0) (by decide +kernel) rfl ?_
        refine pe_alenXv (v := 3) (by decide +kernel) (hX 39 (by decide +kernel)) (by decide +kernel) (by decide +kernel) ?_
        refine pi_S (j := 9) (mj := 38) (by decide +kernel) (by decide +kernel) rfl ?_
        show pmE pg X pg_tyl pg_cl (d + 2) 38 0 [.int x2, .int 3] [] (cd f A R wr) _
        refine pe_iload_n (j := 0) (by decide +kernel) rfl ?_
        refine pe_iload_n (j := 1) (by decide +kernel) rfl ?_
        refine pe_getstatic (j := 1053) (v := .retAddr 99) (by decide +kernel) (by decide +kernel) ?_
        refine pi_S (j := 1059) (mj := 39) (by decide +kernel) (by decide +kernel) rfl ?_
        show pmE pg X pg_tyl pg_cl (d + 1) 39 0 [.int x2, .int 3, .retAddr 99] [] (cd f A R wr) _
        refine pe_iload_n (j := 0) (by decide +kernel) rfl ?_
        refine pz_if_lt (off := 8) (t := 9) (by decide +kernel) (by decide) rfl rfl (fun h10 => by omega) (fun h10 => ?_)
        refine pe_iload_n (j := 0) (by decide +kernel) rfl ?_
        refine pe_iload_n (j := 1) (by decide +kernel) rfl ?_
        refine pz_icmp_lt (off := 10) (t := 16) (by decide +kernel) (by decide) rfl rfl kz_3 (fun h11 => ?_) (fun h11 => by omega)
        refine pe_iload_n (j := 0) (by decide +kernel) rfl ?_
        refine pe_iret (by decide +kernel) rfl rfl ⟨rfl, rfl, ?_⟩
        show pmE pg X pg_tyl pg_cl (d + 2) 38 8 [.int x2, .int 3] [.int x2] (cd f A R wr) _
        refine pe_pop (by decide +kernel) rfl ?_
        refine pe_vret (by decide +kernel) rfl ⟨rfl, rfl, ?_⟩
        show pmE pg X pg_tyl pg_cl (d + 3) 37 6 [.retAddr 39, .int x2] [] (cd f A R wr) _
        refine pe_aloadX_n (j := 0) (by decide +kernel) rfl ?_
        refine pe_iload_n (j := 1) (by decide +kernel) rfl ?_
        refine pz_baldX (by decide +kernel) (hX 39 (by decide +kernel)) rfl rfl (by omega) (by omega) (fun v12 ev12 => ?_)
        have rv12 : 0 ≤ v12.toInt ∧ v12.toInt ≤ 102 := by rw [ev12]; exact lt_all (by decide +kernel) (by decide) _
        refine pe_sipushv (n := 255) (v := 255) (by decide +kernel) (by decide +kernel) ?_
        refine pz_and255 (by decide +kernel) (fun z13 hz13 => ?_)
        refine pz_i2c (by decide +kernel) rfl (by omega) (by omega) (fun z14 hz14 => ?_)
        rw [hz14]
        refine pe_iret (by decide +kernel) rfl (nz_c (by omega)) ⟨rfl, rfl, ?_⟩
        show pmE pg X pg_tyl pg_cl (d + 4) 35 15 [.retAddr 38, .int x2] [.int z13] (cd f A R wr) _
        refine pe_iret (by decide +kernel) rfl (nz_c (by omega)) ⟨rfl, rfl, ?_⟩
        show pmE pg X pg_tyl pg_cl (d + 5) 32 43 [.ref 23, .retAddr 38, .int x2] [.int z13, .int (-1)] (cd f A R wr) _
        refine pz_icmp_eq (off := 5) (t := 48) (by decide +kernel) (by decide) rfl kz_m1 rfl (fun h15 => by omega) (fun h15 => ?_)
        refine pe_iconstv (n := 0) (v := 0) (by decide +kernel) (by decide +kernel) ?_
        exact pe_iret (by decide +kernel) rfl rfl kr_0
      · skip
        refine pe_aload_n (j := 0) (by decide +kernel) rfl ?_
        refine pe_get (j := 29) (ci := 4) (n := 3) (by decide +kernel) (by decide +kernel) cd_o23 rfl ?_
        refine pe_topV (v := .ref 4) (hR4) ?_
        refine pe_iload_n (j := 1) (by decide +kernel) rfl ?_
        refine pz_bald (by decide +kernel) cd_a4 (cl_4 hI) hz4 (by omega) (by omega) (fun v16 ev16 => ?_)
        have rv16 : (-128) ≤ v16.toInt ∧ v16.toInt ≤ 127 := ct_4 hI ev16
        refine pe_goto (off := 4) (t := 22) (by decide +kernel) (by decide) rfl ?_
        refine pe_iret (by decide +kernel) rfl rfl ⟨rfl, rfl, ?_⟩
        show pmE pg X pg_tyl pg_cl (d + 5) 32 38 [.ref 23, .retAddr 38, .int x2] [.int v16] (cd f A R wr) _
        refine pe_aloadX_n (j := 1) (by decide +kernel) rfl ?_
        refine pe_iload_n (j := 2) (by decide +kernel) rfl ?_
        refine pi_V (j := 187) (mj := 35) (by decide +kernel) (cll_T (args := [.int x2]) (n := 1) (by decide +kernel) rfl rfl (hX 38 (by decide +kernel)) (by decide +kernel) (Nat.le_of_ble_eq_true rfl) (Nat.le_of_ble_eq_true rfl)) ?_
        show pmE pg X pg_tyl pg_cl (d + 4) 35 0 [.retAddr 38, .int x2] [] (cd f A R wr) _
        refine pe_aloadX_n (j := 0) (by decide +kernel) rfl ?_
        refine pi_V (j := 492) (mj := 36) (by decide +kernel) (cll_T (args := []) (n := 0) (by decide +kernel) rfl rfl (hX 38 (by decide +kernel)) (by decide +kernel) (Nat.le_of_ble_eq_true rfl) (Nat.le_of_ble_eq_true rfl)) ?_
        show pmE pg X pg_tyl pg_cl (d + 3) 36 0 [.retAddr 38] [] (cd f A R wr) _
        refine pe_getstatic (j := 38) (v := .int 1) (by decide +kernel) (by decide +kernel) ?_
        refine pz_if_eq (off := 14) (t := 17) (by decide +kernel) (by decide) rfl kz_1 (fun h17 => by omega) (fun h17 => ?_)
        refine pe_aloadX_n (j := 0) (by decide +kernel) rfl ?_
        refine pe_getT0 (k := 15) (by decide +kernel) (hX 38 (by decide +kernel)) (by decide +kernel) ?_
        refine pz_if_ne (off := 7) (t := 17) (by decide +kernel) (by decide) rfl kz_0 (fun h18 => by omega) (fun h18 => ?_)
        refine pe_iconstv (n := 1) (v := 1) (by decide +kernel) (by decide +kernel) ?_
        refine pe_goto (off := 4) (t := 18) (by decide +kernel) (by decide) rfl ?_
        refine pe_iret (by decide +kernel) rfl rfl ⟨rfl, rfl, ?_⟩
        show pmE pg X pg_tyl pg_cl (d + 4) 35 4 [.retAddr 38, .int x2] [.int 1] (cd f A R wr) _
        refine pz_if_eq (off := 12) (t := 16) (by decide +kernel) (by decide) rfl kz_1 (fun h19 => by omega) (fun h19 => ?_)
        refine pe_aloadX_n (j := 0) (by decide +kernel) rfl ?_
        refine pe_getT1 (k := 9) (by decide +kernel) (hX 38 (by decide +kernel)) (by decide +kernel) ?_
        refine pe_iload_n (j := 1) (by decide +kernel) rfl ?_
        refine pi_S (j := 495) (mj := 37) (by decide +kernel) (by decide +kernel) rfl ?_
        show pmE pg X pg_tyl pg_cl (d + 3) 37 0 [.retAddr 39, .int x2] [] (cd f A R wr) _
        refine pe_iload_n (j := 1) (by decide +kernel) rfl ?_
        refine pe_aloadX_n (j := 0) (by decide +kernel) rfl ?_
        refine pe_alenXv (v := 3) (by decide +kernel) (hX 39 (by decide +kernel)) (by decide +kernel) (by decide +kernel) ?_
        refine pi_S (j := 9) (mj := 38) (by decide +kernel) (by decide +kernel) rfl ?_
        show pmE pg X pg_tyl pg_cl (d + 2) 38 0 [.int x2, .int 3] [] (cd f A R wr) _
        refine pe_iload_n (j := 0) (by decide +kernel) rfl ?_
        refine pe_iload_n (j := 1) (by decide +kernel) rfl ?_
        refine pe_getstatic (j := 1053) (v := .retAddr 99) (by decide +kernel) (by decide +kernel) ?_
        refine pi_S (j := 1059) (mj := 39) (by decide +kernel) (by decide +kernel) rfl ?_
        show pmE pg X pg_tyl pg_cl (d + 1) 39 0 [.int x2, .int 3, .retAddr 99] [] (cd f A R wr) _
        refine pe_iload_n (j := 0) (by decide +kernel) rfl ?_
        refine pz_if_lt (off := 8) (t := 9) (by decide +kernel) (by decide) rfl rfl (fun h20 => by omega) (fun h20 => ?_)
        refine pe_iload_n (j := 0) (by decide +kernel) rfl ?_
        refine pe_iload_n (j := 1) (by decide +kernel) rfl ?_
        refine pz_icmp_lt (off := 10) (t := 16) (by decide +kernel) (by decide) rfl rfl kz_3 (fun h21 => ?_) (fun h21 => by omega)
        refine pe_iload_n (j := 0) (by decide +kernel) rfl ?_
        refine pe_iret (by decide +kernel) rfl rfl ⟨rfl, rfl, ?_⟩
        show pmE pg X pg_tyl pg_cl (d + 2) 38 8 [.int x2, .int 3] [.int x2] (cd f A R wr) _
        refine pe_pop (by decide +kernel) rfl ?_
        refine pe_vret (by decide +kernel) rfl ⟨rfl, rfl, ?_⟩
        show pmE pg X pg_tyl pg_cl (d + 3) 37 6 [.retAddr 39, .int x2] [] (cd f A R wr) _
        refine pe_aloadX_n (j := 0) (by decide +kernel) rfl ?_
        refine pe_iload_n (j := 1) (by decide +kernel) rfl ?_
        refine pz_baldX (by decide +kernel) (hX 39 (by decide +kernel)) rfl rfl (by omega) (by omega) (fun v22 ev22 => ?_)
        have rv22 : 0 ≤ v22.toInt ∧ v22.toInt ≤ 102 := by rw [ev22]; exact lt_all (by decide +kernel) (by decide) _
        refine pe_sipushv (n := 255) (v := 255) (by decide +kernel) (by decide +kernel) ?_
        refine pz_and255 (by decide +kernel) (fun z23 hz23 => ?_)
        refine pz_i2c (by decide +kernel) rfl (by omega) (by omega) (fun z24 hz24 => ?_)
        rw [hz24]
        refine pe_iret (by decide +kernel) rfl (nz_c (by omega)) ⟨rfl, rfl, ?_⟩
        show pmE pg X pg_tyl pg_cl (d + 4) 35 15 [.retAddr 38, .int x2] [.int z23] (cd f A R wr) _
        refine pe_iret (by decide +kernel) rfl (nz_c (by omega)) ⟨rfl, rfl, ?_⟩
        show pmE pg X pg_tyl pg_cl (d + 5) 32 43 [.ref 23, .retAddr 38, .int x2] [.int z23, .int v16] (cd f A R wr) _
        refine pz_icmp_eq (off := 5) (t := 48) (by decide +kernel) (by decide) rfl rfl rfl (fun h25 => ?_) (fun h25 => ?_)
        · skip
          refine pz_iinc (j := 2) (n := 1) (by decide +kernel) rfl rfl (by decide +kernel) (by omega) (by omega) (fun z26 hz26 => ?_)
          show pmE pg X pg_tyl pg_cl (d + 5) 32 51 [.ref 23, .retAddr 38, .int z26] [] (cd f A R wr) _
          refine pe_goto (off := (-31)) (t := 20) (by decide +kernel) (by decide) rfl ?_
          exact ih z26 (by omega) (by omega)
        · skip
          refine pe_iconstv (n := 0) (v := 0) (by decide +kernel) (by decide +kernel) ?_
          exact pe_iret (by decide +kernel) rfl rfl kr_0
set_option maxRecDepth 100000 in
set_option maxHeartbeats 8000000 in
theorem CM_32_9 {X : pm_X} {d : Nat} {wr : pm_W} {f : Nat → Int32} {A : Nat → List Int32} {R : Nat → Value} (hX : XO X) (hI : CI f A R) (hR4 : R 4 = .ref 4) : pmE pg X pg_tyl pg_cl (d + 5) 32 0 (pm_ent (pm_max pg 32) [.ref 23, .retAddr 38]) [] (cd f A R wr) (fun q => ∃ (r : Int32), q = (some (.int r), cd f A R wr, 0, 0) ∧ ((r = 0 ∧ True) ∨ (r = 1 ∧ True))) := by
  show pmE pg X pg_tyl pg_cl (d + 5) 32 0 [.ref 23, .retAddr 38, pm_dead] [] (cd f A R wr) _
  refine pe_aload_n (j := 0) (by decide +kernel) rfl ?_
  refine pe_get (j := 47) (ci := 4) (n := 5) (by decide +kernel) (by decide +kernel) cd_o23 rfl ?_
  have hr_f_373 := cf_373 hI
  refine pe_aload_n (j := 0) (by decide +kernel) rfl ?_
  refine pe_get (j := 69) (ci := 4) (n := 7) (by decide +kernel) (by decide +kernel) cd_o23 rfl ?_
  have hr_f_375 := cf_375 hI
  refine pz_sub (by decide +kernel) rfl rfl (by omega) (by omega) (fun z1 hz1 => ?_)
  refine pe_aloadX_n (j := 1) (by decide +kernel) rfl ?_
  refine pi_V (j := 179) (mj := 33) (by decide +kernel) (cll_T (args := []) (n := 0) (by decide +kernel) rfl rfl (hX 38 (by decide +kernel)) (by decide +kernel) (Nat.le_of_ble_eq_true rfl) (Nat.le_of_ble_eq_true rfl)) ?_
  show pmE pg X pg_tyl pg_cl (d + 4) 33 0 [.retAddr 38] [] (cd f A R wr) _
  refine pe_aloadX_n (j := 0) (by decide +kernel) rfl ?_
  refine pe_getT1 (k := 9) (by decide +kernel) (hX 38 (by decide +kernel)) (by decide +kernel) ?_
  refine pe_alenXv (v := 3) (by decide +kernel) (hX 39 (by decide +kernel)) (by decide +kernel) (by decide +kernel) ?_
  refine pe_aloadX_n (j := 0) (by decide +kernel) rfl ?_
  refine pi_V (j := 335) (mj := 34) (by decide +kernel) (cll_T (args := []) (n := 0) (by decide +kernel) rfl rfl (hX 38 (by decide +kernel)) (by decide +kernel) (Nat.le_of_ble_eq_true rfl) (Nat.le_of_ble_eq_true rfl)) ?_
  show pmE pg X pg_tyl pg_cl (d + 3) 34 0 [.retAddr 38] [] (cd f A R wr) _
  refine pe_getstatic (j := 38) (v := .int 1) (by decide +kernel) (by decide +kernel) ?_
  refine pz_if_eq (off := 10) (t := 13) (by decide +kernel) (by decide) rfl kz_1 (fun h2 => by omega) (fun h2 => ?_)
  refine pe_aloadX_n (j := 0) (by decide +kernel) rfl ?_
  refine pe_getT0 (k := 15) (by decide +kernel) (hX 38 (by decide +kernel)) (by decide +kernel) ?_
  refine pe_goto (off := 4) (t := 14) (by decide +kernel) (by decide) rfl ?_
  refine pe_iret (by decide +kernel) rfl (by decide +kernel) ⟨rfl, rfl, ?_⟩
  show pmE pg X pg_tyl pg_cl (d + 4) 33 9 [.retAddr 38] [.int 0, .int 3] (cd f A R wr) _
  refine pe_ishr (by decide +kernel) ?_
  refine pe_top (v := 3) (by decide +kernel) ?_
  refine pe_iret (by decide +kernel) rfl rfl ⟨rfl, rfl, ?_⟩
  show pmE pg X pg_tyl pg_cl (d + 5) 32 13 [.ref 23, .retAddr 38, pm_dead] [.int 3, .int z1] (cd f A R wr) _
  refine pz_icmp_eq (off := 5) (t := 18) (by decide +kernel) (by decide) rfl hz1 kz_3 (fun h4 => ?_) (fun h4 => ?_)
  · skip
    clear hz1
    refine pe_iconstv (n := 0) (v := 0) (by decide +kernel) (by decide +kernel) ?_
    refine pe_istore_n (j := 2) (ls' := [.ref 23, .retAddr 38, .int 0]) (by decide +kernel) (Nat.le_of_ble_eq_true rfl) rfl ?_
    refine CL_32_9_20 hX hI (hR4) (fun y5 gy5 => ?_) (⟨0, rfl, Or.inl ⟨rfl, trivial⟩⟩) 4 0 (by decide +kernel) (by decide +kernel)
    refine pe_iconstv (n := 1) (v := 1) (by decide +kernel) (by decide +kernel) ?_
    exact pe_iret (by decide +kernel) rfl rfl ⟨1, rfl, Or.inr (⟨rfl, trivial⟩)⟩
  · skip
    clear hz1
    refine pe_iconstv (n := 0) (v := 0) (by decide +kernel) (by decide +kernel) ?_
    exact pe_iret (by decide +kernel) rfl rfl ⟨0, rfl, Or.inl ⟨rfl, trivial⟩⟩
