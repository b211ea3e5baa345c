set_option maxRecDepth 100000 in
set_option maxHeartbeats 8000000 in
theorem CM_77 {X : pm_X} {d : Nat} {wr : pm_W} {f : Nat → Int32} {A : Nat → List Int32} {R : Nat → Value} {x1 x2 : Int32} {v : Nat} (hX : XO X) (hI : CI f A R) (hv : VV v) (hR0 : R 0 = .ref v) (gx1 : (0 ≤ x1.toInt ∧ x1.toInt ≤ 8)) (gx2 : (0 ≤ x2.toInt ∧ x2.toInt ≤ 8)) : pmE pg X pg_tyl pg_cl (d + 1) 77 0 (pm_ent (pm_max pg 77) [.ref 33, .int x1, .int x2]) [] (cd f A R wr) (fun q => ∃ (r : Int32), q = (some (.int r), cd f A R wr, 0, 0) ∧ (((0 ≤ r.toInt) ∧ True))) := by
  have bv := VV_b hv
  show pmE pg X pg_tyl pg_cl (d + 1) 77 0 [.ref 33, .int x1, .int x2] [] (cd f A R wr) _
  refine pe_iload_n (j := 1) (by decide +kernel) rfl ?_
  refine pe_iload_n (j := 2) (by decide +kernel) rfl ?_
  refine pz_icmp_ne (off := 5) (t := 7) (by decide +kernel) (by decide) rfl rfl rfl (fun h1 => ?_) (fun h1 => ?_)
  · skip
    refine pe_iconstv (n := 0) (v := 0) (by decide +kernel) (by decide +kernel) ?_
    refine pe_aload_n (j := 0) (by decide +kernel) rfl ?_
    refine pe_get (j := 12) (ci := 7) (n := 0) (by decide +kernel) (by decide +kernel) cd_o33 rfl ?_
    refine pe_topV (v := .ref v) (hR0) ?_
    refine pe_get (j := 47) (ci := 9) (n := 3) (by decide +kernel) (by decide +kernel) (cv_o hv) rfl ?_
    refine pe_iload_n (j := 2) (by decide +kernel) rfl ?_
    refine pe_iload_n (j := 1) (by decide +kernel) rfl ?_
    refine pi_S (j := 50) (mj := 52) (by decide +kernel) (by decide +kernel) rfl ?_
    show pmE pg X pg_tyl pg_cl (d) 52 0 [.int x2, .int x1] [] (cd f A R wr) _
    refine pe_iload_n (j := 0) (by decide +kernel) rfl ?_
    refine pe_bipushv (n := 9) (v := 9) (by decide +kernel) (by decide +kernel) ?_
    refine pz_mul (by decide +kernel) rfl kz_9 (by omega) (by omega) (fun z2 hz2 => ?_)
    refine pe_iload_n (j := 1) (by decide +kernel) rfl ?_
    refine pz_add (by decide +kernel) hz2 rfl (by omega) (by omega) (fun z3 hz3 => ?_)
    clear hz2
    refine pe_iret (by decide +kernel) rfl rfl ⟨rfl, rfl, ?_⟩
    show pmE pg X pg_tyl pg_cl (d + 1) 77 20 [.ref 33, .int x1, .int x2] [.int z3, .ref (v + 1), .int 0] (cd f A R wr) _
    refine pz_iald (by decide +kernel) (cv_a1 hv) (cv_l1 hv hI) hz3 (by omega) (by omega) (fun v4 ev4 => ?_)
    clear hz3
    refine pe_aload_n (j := 0) (by decide +kernel) rfl ?_
    refine pe_get (j := 18) (ci := 7) (n := 3) (by decide +kernel) (by decide +kernel) cd_o33 rfl ?_
    refine pe_iload_n (j := 1) (by decide +kernel) rfl ?_
    refine pe_iload_n (j := 2) (by decide +kernel) rfl ?_
    refine pi_S (j := 50) (mj := 52) (by decide +kernel) (by decide +kernel) rfl ?_
    show pmE pg X pg_tyl pg_cl (d) 52 0 [.int x1, .int x2] [] (cd f A R wr) _
    refine pe_iload_n (j := 0) (by decide +kernel) rfl ?_
    refine pe_bipushv (n := 9) (v := 9) (by decide +kernel) (by decide +kernel) ?_
    refine pz_mul (by decide +kernel) rfl kz_9 (by omega) (by omega) (fun z5 hz5 => ?_)
    refine pe_iload_n (j := 1) (by decide +kernel) rfl ?_
    refine pz_add (by decide +kernel) hz5 rfl (by omega) (by omega) (fun z6 hz6 => ?_)
    clear hz5
    refine pe_iret (by decide +kernel) rfl rfl ⟨rfl, rfl, ?_⟩
    show pmE pg X pg_tyl pg_cl (d + 1) 77 30 [.ref 33, .int x1, .int x2] [.int z6, .ref 39, .int v4, .int 0] (cd f A R wr) _
    refine pz_iald (by decide +kernel) cd_a39 (cl_39 hI) hz6 (by omega) (by omega) (fun v7 ev7 => ?_)
    clear hz6
    refine pw_sub (by decide +kernel) (fun z8 => ?_)
    have hl10 := kz_0
    have lw11 := zi_lo z8
    have uw11 := zi_hi z8
    refine pz_max (j := 54) (c := 2147483647) (by decide +kernel) (by decide +kernel) (Nat.le_of_ble_eq_true rfl) kz_0 rfl (by omega) (by omega) (fun z9 hz9 => ?_)
    exact pe_iret (by decide +kernel) rfl rfl ⟨z9, rfl, ⟨(by omega), trivial⟩⟩
  · skip
    refine pe_iconstv (n := 0) (v := 0) (by decide +kernel) (by decide +kernel) ?_
    exact pe_iret (by decide +kernel) rfl rfl ⟨0, rfl, ⟨(by decide +kernel), trivial⟩⟩
set_option maxRecDepth 100000 in
set_option maxHeartbeats 8000000 in
theorem CL_88_4 {X : pm_X} {d : Nat} {wr : pm_W} {Q : pm_R → Prop} {f : Nat → Int32} {A : Nat → List Int32} {R : Nat → Value} {x1 : Int32} (hX : XO X) (hI : CI f A R) (gx1 : (0 ≤ x1.toInt ∧ x1.toInt ≤ 36)) (k_33_0 : ∀ (y2 : Int32) (y3 : Int32), (0 ≤ y3.toInt ∧ y3.toInt ≤ 6) → pmE pg X pg_tyl pg_cl (d + 1) 88 33 [.ref 33, .int x1, .int y2, .int y3] [] (cd f A R wr) Q) : ∀ (m : Nat) (x2 : Int32) (x3 : Int32), (0 ≤ x3.toInt ∧ x3.toInt ≤ 6) → 6 - x3.toInt < (m : Int) → pmE pg X pg_tyl pg_cl (d + 1) 88 4 [.ref 33, .int x1, .int x2, .int x3] [] (cd f A R wr) Q := by
  intro m
  induction m with
  | zero =>
    intro x2 x3 gx3 hm
    exfalso
    have l0 := zi_lo x3
    have u0 := zi_hi x3
    omega
  | succ m ih =>
    intro x2 x3 gx3 hm
    refine pe_iload_n (j := 3) (by decide +kernel) rfl ?_
    refine pe_aload_n (j := 0) (by decide +kernel) rfl ?_
    refine pe_iload_n (j := 1) (by decide +kernel) rfl ?_
    refine pe_iconstv (n := 0) (v := 0) (by decide +kernel) (by decide +kernel) ?_
    refine pi_V (j := 100) (mj := 84) (by decide +kernel) (cll_V (args := [.int 0, .int x1]) (n := 2) (by decide +kernel) rfl rfl cd_o33 (by decide +kernel) (Nat.le_of_ble_eq_true rfl) (Nat.le_of_ble_eq_true rfl)) ?_
    show pmE pg X pg_tyl pg_cl (d) 84 0 [.ref 33, .int x1, .int 0] [] (cd f A R wr) _
    refine pe_aload_n (j := 0) (by decide +kernel) rfl ?_
    refine pe_get (j := 22) (ci := 7) (n := 4) (by decide +kernel) (by decide +kernel) cd_o33 rfl ?_
    refine pe_iload_n (j := 1) (by decide +kernel) rfl ?_
    refine pe_bipushv (n := 10) (v := 10) (by decide +kernel) (by decide +kernel) ?_
    refine pz_mul (by decide +kernel) rfl kz_10 (by omega) (by omega) (fun z1 hz1 => ?_)
    refine pe_iload_n (j := 2) (by decide +kernel) rfl ?_
    refine pz_add (by decide +kernel) hz1 kz_0 (by omega) (by omega) (fun z2 hz2 => ?_)
    clear hz1
    refine pz_iald (by decide +kernel) cd_a40 (cl_40 hI) hz2 (by omega) (by omega) (fun v3 ev3 => ?_)
    have rv3 : 0 ≤ v3.toInt ∧ v3.toInt ≤ 6 := ct1_m (ct_40 hI ev3) (by omega)
    clear hz2
    refine pe_iret (by decide +kernel) rfl rfl ⟨rfl, rfl, ?_⟩
    show pmE pg X pg_tyl pg_cl (d + 1) 88 11 [.ref 33, .int x1, .int x2, .int x3] [.int v3, .int x3] (cd f A R wr) _
    refine pz_icmp_ge (off := 22) (t := 33) (by decide +kernel) (by decide) rfl rfl rfl (fun h4 => ?_) (fun h4 => ?_)
    · skip
      exact k_33_0 x2 x3 (by omega)
    · skip
      refine pe_iload_n (j := 2) (by decide +kernel) rfl ?_
      refine pe_iconstv (n := 1) (v := 1) (by decide +kernel) (by decide +kernel) ?_
      refine pe_aload_n (j := 0) (by decide +kernel) rfl ?_
      refine pe_iload_n (j := 1) (by decide +kernel) rfl ?_
      refine pe_iconstv (n := 4) (v := 4) (by decide +kernel) (by decide +kernel) ?_
      refine pe_iload_n (j := 3) (by decide +kernel) rfl ?_
      refine pz_add (by decide +kernel) kz_4 rfl (by omega) (by omega) (fun z5 hz5 => ?_)
      refine pi_V (j := 100) (mj := 84) (by decide +kernel) (cll_V (args := [.int z5, .int x1]) (n := 2) (by decide +kernel) rfl rfl cd_o33 (by decide +kernel) (Nat.le_of_ble_eq_true rfl) (Nat.le_of_ble_eq_true rfl)) ?_
      show pmE pg X pg_tyl pg_cl (d) 84 0 [.ref 33, .int x1, .int z5] [] (cd f A R wr) _
      refine pe_aload_n (j := 0) (by decide +kernel) rfl ?_
      refine pe_get (j := 22) (ci := 7) (n := 4) (by decide +kernel) (by decide +kernel) cd_o33 rfl ?_
      refine pe_iload_n (j := 1) (by decide +kernel) rfl ?_
      refine pe_bipushv (n := 10) (v := 10) (by decide +kernel) (by decide +kernel) ?_
      refine pz_mul (by decide +kernel) rfl kz_10 (by omega) (by omega) (fun z6 hz6 => ?_)
      refine pe_iload_n (j := 2) (by decide +kernel) rfl ?_
      refine pz_add (by decide +kernel) hz6 hz5 (by omega) (by omega) (fun z7 hz7 => ?_)
      clear hz6
      refine pz_iald (by decide +kernel) cd_a40 (cl_40 hI) hz7 (by omega) (by omega) (fun v8 ev8 => ?_)
      have rv8 : 0 ≤ v8.toInt ∧ v8.toInt ≤ 8 := ct1_w (ct_40 hI ev8) (by omega)
      clear hz7
      refine pe_iret (by decide +kernel) rfl rfl ⟨rfl, rfl, ?_⟩
      show pmE pg X pg_tyl pg_cl (d + 1) 88 24 [.ref 33, .int x1, .int x2, .int x3] [.int v8, .int 1, .int x2] (cd f A R wr) _
      refine pz_shl1 (by decide +kernel) rfl (by omega) (by omega) (fun z9 hz9 => ?_)
      refine pw_or (by decide +kernel) (fun z10 => ?_)
      refine pe_istore_n (j := 2) (ls' := [.ref 33, .int x1, .int z10, .int x3]) (by decide +kernel) (Nat.le_of_ble_eq_true rfl) rfl ?_
      refine pz_iinc (j := 3) (n := 1) (by decide +kernel) rfl rfl (by decide +kernel) (by omega) (by omega) (fun z11 hz11 => ?_)
      show pmE pg X pg_tyl pg_cl (d + 1) 88 30 [.ref 33, .int x1, .int z10, .int z11] [] (cd f A R wr) _
      refine pe_goto (off := (-26)) (t := 4) (by decide +kernel) (by decide) rfl ?_
      exact ih z10 z11 (by omega) (by omega)
set_option maxRecDepth 100000 in
set_option maxHeartbeats 8000000 in
theorem CM_88 {X : pm_X} {d : Nat} {wr : pm_W} {f : Nat → Int32} {A : Nat → List Int32} {R : Nat → Value} {x1 : Int32} (hX : XO X) (hI : CI f A R) (gx1 : (0 ≤ x1.toInt ∧ x1.toInt ≤ 36)) : pmE pg X pg_tyl pg_cl (d + 1) 88 0 (pm_ent (pm_max pg 88) [.ref 33, .int x1]) [] (cd f A R wr) (fun q => ∃ (r : Int32), q = (some (.int r), cd f A R wr, 0, 0) ∧ ((True ∧ True))) := by
  show pmE pg X pg_tyl pg_cl (d + 1) 88 0 [.ref 33, .int x1, pm_dead, pm_dead] [] (cd f A R wr) _
  refine pe_iconstv (n := 0) (v := 0) (by decide +kernel) (by decide +kernel) ?_
  refine pe_istore_n (j := 2) (ls' := [.ref 33, .int x1, .int 0, pm_dead]) (by decide +kernel) (Nat.le_of_ble_eq_true rfl) rfl ?_
  refine pe_iconstv (n := 0) (v := 0) (by decide +kernel) (by decide +kernel) ?_
  refine pe_istore_n (j := 3) (ls' := [.ref 33, .int x1, .int 0, .int 0]) (by decide +kernel) (Nat.le_of_ble_eq_true rfl) rfl ?_
  refine CL_88_4 hX hI (by omega) (fun y1 y2 gy2 => ?_) 7 0 0 (by decide +kernel) (by decide +kernel)
  refine pe_iload_n (j := 2) (by decide +kernel) rfl ?_
  exact pe_iret (by decide +kernel) rfl rfl ⟨y1, rfl, ⟨trivial, trivial⟩⟩
set_option maxRecDepth 100000 in
set_option maxHeartbeats 8000000 in
theorem CM_87 {X : pm_X} {d : Nat} {wr : pm_W} {f : Nat → Int32} {A : Nat → List Int32} {R : Nat → Value} {x1 x2 : Int32} (hX : XO X) (hI : CI f A R) (gx1 : (0 ≤ x1.toInt ∧ x1.toInt ≤ 36)) : pmE pg X pg_tyl pg_cl (d + 2) 87 0 (pm_ent (pm_max pg 87) [.ref 33, .int x1, .int x2]) [] (cd f A R wr) (fun q => ∃ (r : Int32), q = (some (.int r), cd f A R wr, 0, 0) ∧ ((r = 0 ∧ True) ∨ (r = 1 ∧ True))) := by
  show pmE pg X pg_tyl pg_cl (d + 2) 87 0 [.ref 33, .int x1, .int x2] [] (cd f A R wr) _
  refine pe_aload_n (j := 0) (by decide +kernel) rfl ?_
  refine pe_iload_n (j := 1) (by decide +kernel) rfl ?_
  refine pi_V (j := 103) (mj := 83) (by decide +kernel) (cll_V (args := [.int x1]) (n := 1) (by decide +kernel) rfl rfl cd_o33 (by decide +kernel) (Nat.le_of_ble_eq_true rfl) (Nat.le_of_ble_eq_true rfl)) ?_
  show pmE pg X pg_tyl pg_cl (d + 1) 83 0 [.ref 33, .int x1] [] (cd f A R wr) _
  refine pe_aload_n (j := 0) (by decide +kernel) rfl ?_
  refine pe_iload_n (j := 1) (by decide +kernel) rfl ?_
  refine pe_iconstv (n := 3) (v := 3) (by decide +kernel) (by decide +kernel) ?_
  refine pi_V (j := 100) (mj := 84) (by decide +kernel) (cll_V (args := [.int 3, .int x1]) (n := 2) (by decide +kernel) rfl rfl cd_o33 (by decide +kernel) (Nat.le_of_ble_eq_true rfl) (Nat.le_of_ble_eq_true rfl)) ?_
  show pmE pg X pg_tyl pg_cl (d) 84 0 [.ref 33, .int x1, .int 3] [] (cd f A R wr) _
  refine pe_aload_n (j := 0) (by decide +kernel) rfl ?_
  refine pe_get (j := 22) (ci := 7) (n := 4) (by decide +kernel) (by decide +kernel) cd_o33 rfl ?_
  refine pe_iload_n (j := 1) (by decide +kernel) rfl ?_
  refine pe_bipushv (n := 10) (v := 10) (by decide +kernel) (by decide +kernel) ?_
  refine pz_mul (by decide +kernel) rfl kz_10 (by omega) (by omega) (fun z1 hz1 => ?_)
  refine pe_iload_n (j := 2) (by decide +kernel) rfl ?_
  refine pz_add (by decide +kernel) hz1 kz_3 (by omega) (by omega) (fun z2 hz2 => ?_)
  clear hz1
  refine pz_iald (by decide +kernel) cd_a40 (cl_40 hI) hz2 (by omega) (by omega) (fun v3 ev3 => ?_)
  clear hz2
  refine pe_iret (by decide +kernel) rfl rfl ⟨rfl, rfl, ?_⟩
  show pmE pg X pg_tyl pg_cl (d + 1) 83 6 [.ref 33, .int x1] [.int v3] (cd f A R wr) _
  refine pe_iconstv (n := 1) (v := 1) (by decide +kernel) (by decide +kernel) ?_
  have lw5 := zi_lo v3
  have uw5 := zi_hi v3
  refine pz_icmp_ne (off := 7) (t := 14) (by decide +kernel) (by decide) rfl rfl kz_1 (fun h4 => ?_) (fun h4 => ?_)
  · skip
    refine pe_iconstv (n := 0) (v := 0) (by decide +kernel) (by decide +kernel) ?_
    refine pe_iret (by decide +kernel) rfl rfl ⟨rfl, rfl, ?_⟩
    show pmE pg X pg_tyl pg_cl (d + 2) 87 5 [.ref 33, .int x1, .int x2] [.int 0] (cd f A R wr) _
    refine pz_if_eq (off := 19) (t := 24) (by decide +kernel) (by decide) rfl kz_0 (fun h6 => ?_) (fun h6 => by omega)
    refine pe_iconstv (n := 0) (v := 0) (by decide +kernel) (by decide +kernel) ?_
    exact pe_iret (by decide +kernel) rfl rfl ⟨0, rfl, Or.inl ⟨rfl, trivial⟩⟩
  · skip
    refine pe_iconstv (n := 1) (v := 1) (by decide +kernel) (by decide +kernel) ?_
    refine pe_goto (off := 4) (t := 15) (by decide +kernel) (by decide) rfl ?_
    refine pe_iret (by decide +kernel) rfl rfl ⟨rfl, rfl, ?_⟩
    show pmE pg X pg_tyl pg_cl (d + 2) 87 5 [.ref 33, .int x1, .int x2] [.int 1] (cd f A R wr) _
    refine pz_if_eq (off := 19) (t := 24) (by decide +kernel) (by decide) rfl kz_1 (fun h7 => by omega) (fun h7 => ?_)
    refine pe_aload_n (j := 0) (by decide +kernel) rfl ?_
    refine pe_iload_n (j := 1) (by decide +kernel) rfl ?_
    refine pz_callV (j := 106) (mj := 88) (by decide +kernel) (cll_V (args := [.int x1]) (n := 1) (by decide +kernel) rfl rfl cd_o33 (by decide +kernel) (Nat.le_of_ble_eq_true rfl) (Nat.le_of_ble_eq_true rfl)) (CM_88 hX hI (by omega)) (fun q8a q8b q8c q8d hqq8 => ?_)
    obtain ⟨rq8, eq8, kq8⟩ := hqq8
    cases eq8
    refine ⟨rfl, rfl, ?_⟩
    show pmE pg X pg_tyl pg_cl (d + 2) 87 13 [.ref 33, .int x1, .int x2] [.int rq8] (cd f A R wr) _
    refine pe_iload_n (j := 2) (by decide +kernel) rfl ?_
    refine pi_S (j := 110) (mj := 89) (by decide +kernel) (by decide +kernel) rfl ?_
    show pmE pg X pg_tyl pg_cl (d + 1) 89 0 [.int rq8, .int x2] [] (cd f A R wr) _
    refine pe_iload_n (j := 0) (by decide +kernel) rfl ?_
    refine pe_iload_n (j := 1) (by decide +kernel) rfl ?_
    refine pw_shr (by decide +kernel) (fun z9 => ?_)
    refine pe_iconstv (n := 1) (v := 1) (by decide +kernel) (by decide +kernel) ?_
    refine pz_and1 (by decide +kernel) (fun z10 hz10 => ?_)
    refine pz_if_eq (off := 7) (t := 12) (by decide +kernel) (by decide) rfl rfl (fun h11 => ?_) (fun h11 => ?_)
    · skip
      refine pe_iconstv (n := 0) (v := 0) (by decide +kernel) (by decide +kernel) ?_
      refine pe_iret (by decide +kernel) rfl rfl ⟨rfl, rfl, ?_⟩
      show pmE pg X pg_tyl pg_cl (d + 2) 87 17 [.ref 33, .int x1, .int x2] [.int 0] (cd f A R wr) _
      refine pz_if_eq (off := 7) (t := 24) (by decide +kernel) (by decide) rfl kz_0 (fun h12 => ?_) (fun h12 => by omega)
      refine pe_iconstv (n := 0) (v := 0) (by decide +kernel) (by decide +kernel) ?_
      exact pe_iret (by decide +kernel) rfl rfl ⟨0, rfl, Or.inl ⟨rfl, trivial⟩⟩
    · skip
      refine pe_iconstv (n := 1) (v := 1) (by decide +kernel) (by decide +kernel) ?_
      refine pe_goto (off := 4) (t := 13) (by decide +kernel) (by decide) rfl ?_
      refine pe_iret (by decide +kernel) rfl rfl ⟨rfl, rfl, ?_⟩
      show pmE pg X pg_tyl pg_cl (d + 2) 87 17 [.ref 33, .int x1, .int x2] [.int 1] (cd f A R wr) _
      refine pz_if_eq (off := 7) (t := 24) (by decide +kernel) (by decide) rfl kz_1 (fun h13 => by omega) (fun h13 => ?_)
      refine pe_iconstv (n := 1) (v := 1) (by decide +kernel) (by decide +kernel) ?_
      refine pe_goto (off := 4) (t := 25) (by decide +kernel) (by decide) rfl ?_
      exact pe_iret (by decide +kernel) rfl rfl ⟨1, rfl, Or.inr (⟨rfl, trivial⟩)⟩
set_option maxRecDepth 100000 in
set_option maxHeartbeats 8000000 in
theorem CL_85_17 {X : pm_X} {d : Nat} {wr : pm_W} {Q : pm_R → Prop} {f : Nat → Int32} {A0 : Nat → List Int32} {R : Nat → Value} {x1 x2 x3 : Int32} (hX : XO X) (gx1 : (0 ≤ x1.toInt ∧ x1.toInt ≤ 36)) (gx2 : (0 ≤ x2.toInt ∧ x2.toInt ≤ 6)) (k_95_0 : ∀ (A' : Nat → List Int32) (y4 : Int32) (v5 : Value) (v6 : Value), CI f A' R → (∀ k : Nat, k ≠ 39 → A' k = A0 k) → (0 ≤ y4.toInt ∧ y4.toInt ≤ 6) → x2.toInt ≤ y4.toInt → pmE pg X pg_tyl pg_cl (d + 1) 85 95 [.ref 33, .int x1, .int x2, .int x3, .int y4, v5, v6] [] (cd f A' R wr) Q) : ∀ (m : Nat) (A : Nat → List Int32) (x4 : Int32) (u5 : Value) (u6 : Value), CI f A R → (∀ k : Nat, k ≠ 39 → A k = A0 k) → (0 ≤ x4.toInt ∧ x4.toInt ≤ 6) → 6 - x4.toInt < (m : Int) → pmE pg X pg_tyl pg_cl (d + 1) 85 17 [.ref 33, .int x1, .int x2, .int x3, .int x4, u5, u6] [] (cd f A R wr) Q := by
  intro m
  induction m with
  | zero =>
    intro A x4 u5 u6 hI hF gx4 hm
    exfalso
    have l0 := zi_lo x4
    have u0 := zi_hi x4
    omega
  | succ m ih =>
    intro A x4 u5 u6 hI hF gx4 hm
    refine pe_iload (j := 4) (by decide +kernel) rfl ?_
    refine pe_iload_n (j := 2) (by decide +kernel) rfl ?_
    refine pz_icmp_ge (off := 75) (t := 95) (by decide +kernel) (by decide) rfl rfl rfl (fun h1 => ?_) (fun h1 => ?_)
    · skip
      exact k_95_0 A x4 (u5) (u6) hI (fun k n39 => (hF k n39)) (by omega) (by omega)
    · skip
      refine pe_aload_n (j := 0) (by decide +kernel) rfl ?_
      refine pe_iload_n (j := 1) (by decide +kernel) rfl ?_
      refine pe_iconstv (n := 4) (v := 4) (by decide +kernel) (by decide +kernel) ?_
      refine pe_iload (j := 4) (by decide +kernel) rfl ?_
      refine pz_add (by decide +kernel) kz_4 rfl (by omega) (by omega) (fun z2 hz2 => ?_)
      refine pi_V (j := 100) (mj := 84) (by decide +kernel) (cll_V (args := [.int z2, .int x1]) (n := 2) (by decide +kernel) rfl rfl cd_o33 (by decide +kernel) (Nat.le_of_ble_eq_true rfl) (Nat.le_of_ble_eq_true rfl)) ?_
      show pmE pg X pg_tyl pg_cl (d) 84 0 [.ref 33, .int x1, .int z2] [] (cd f A R wr) _
      refine pe_aload_n (j := 0) (by decide +kernel) rfl ?_
      refine pe_get (j := 22) (ci := 7) (n := 4) (by decide +kernel) (by decide +kernel) cd_o33 rfl ?_
      refine pe_iload_n (j := 1) (by decide +kernel) rfl ?_
      refine pe_bipushv (n := 10) (v := 10) (by decide +kernel) (by decide +kernel) ?_
      refine pz_mul (by decide +kernel) rfl kz_10 (by omega) (by omega) (fun z3 hz3 => ?_)
      refine pe_iload_n (j := 2) (by decide +kernel) rfl ?_
      refine pz_add (by decide +kernel) hz3 hz2 (by omega) (by omega) (fun z4 hz4 => ?_)
      clear hz3
      refine pz_iald (by decide +kernel) cd_a40 (cl_40 hI) hz4 (by omega) (by omega) (fun v5 ev5 => ?_)
      have rv5 : 0 ≤ v5.toInt ∧ v5.toInt ≤ 8 := ct1_w (ct_40 hI ev5) (by omega)
      rw [show A 40 = A0 40 from (hF 40 (by decide))] at ev5
      clear hz4
      refine pe_iret (by decide +kernel) rfl rfl ⟨rfl, rfl, ?_⟩
      show pmE pg X pg_tyl pg_cl (d + 1) 85 32 [.ref 33, .int x1, .int x2, .int x3, .int x4, u5, u6] [.int v5] (cd f A R wr) _
      refine pe_istore (j := 5) (ls' := [.ref 33, .int x1, .int x2, .int x3, .int x4, .int v5, u6]) (by decide +kernel) (Nat.le_of_ble_eq_true rfl) rfl ?_
      refine pe_aload_n (j := 0) (by decide +kernel) rfl ?_
      refine pe_iload_n (j := 1) (by decide +kernel) rfl ?_
      refine pe_iconstv (n := 4) (v := 4) (by decide +kernel) (by decide +kernel) ?_
      refine pe_iload (j := 4) (by decide +kernel) rfl ?_
      refine pe_iconstv (n := 1) (v := 1) (by decide +kernel) (by decide +kernel) ?_
      refine pz_add (by decide +kernel) rfl kz_1 (by omega) (by omega) (fun z6 hz6 => ?_)
      refine pe_iload_n (j := 2) (by decide +kernel) rfl ?_
      refine pz_icmp_ge (off := 10) (t := 52) (by decide +kernel) (by decide) rfl hz6 rfl (fun h7 => ?_) (fun h7 => ?_)
      · skip
        clear hz6
        refine pe_iconstv (n := 0) (v := 0) (by decide +kernel) (by decide +kernel) ?_
        refine pe_iadd (by decide +kernel) ?_
        refine pe_top (v := 4) (by decide +kernel) ?_
        refine pi_V (j := 100) (mj := 84) (by decide +kernel) (cll_V (args := [.int 4, .int x1]) (n := 2) (by decide +kernel) rfl rfl cd_o33 (by decide +kernel) (Nat.le_of_ble_eq_true rfl) (Nat.le_of_ble_eq_true rfl)) ?_
        show pmE pg X pg_tyl pg_cl (d) 84 0 [.ref 33, .int x1, .int 4] [] (cd f A R wr) _
        refine pe_aload_n (j := 0) (by decide +kernel) rfl ?_
        refine pe_get (j := 22) (ci := 7) (n := 4) (by decide +kernel) (by decide +kernel) cd_o33 rfl ?_
        refine pe_iload_n (j := 1) (by decide +kernel) rfl ?_
        refine pe_bipushv (n := 10) (v := 10) (by decide +kernel) (by decide +kernel) ?_
        refine pz_mul (by decide +kernel) rfl kz_10 (by omega) (by omega) (fun z9 hz9 => ?_)
        refine pe_iload_n (j := 2) (by decide +kernel) rfl ?_
        refine pz_add (by decide +kernel) hz9 kz_4 (by omega) (by omega) (fun z10 hz10 => ?_)
        clear hz9
        refine pz_iald (by decide +kernel) cd_a40 (cl_40 hI) hz10 (by omega) (by omega) (fun v11 ev11 => ?_)
        have rv11 : 0 ≤ v11.toInt ∧ v11.toInt ≤ 8 := ct1_w (ct_40 hI ev11) (by omega)
        rw [show A 40 = A0 40 from (hF 40 (by decide))] at ev11
        clear hz10
        refine pe_iret (by decide +kernel) rfl rfl ⟨rfl, rfl, ?_⟩
        show pmE pg X pg_tyl pg_cl (d + 1) 85 57 [.ref 33, .int x1, .int x2, .int x3, .int x4, .int v5, u6] [.int v11] (cd f A R wr) _
        refine pe_istore (j := 6) (ls' := [.ref 33, .int x1, .int x2, .int x3, .int x4, .int v5, .int v11]) (by decide +kernel) (Nat.le_of_ble_eq_true rfl) rfl ?_
        refine pe_aload_n (j := 0) (by decide +kernel) rfl ?_
        refine pe_get (j := 18) (ci := 7) (n := 3) (by decide +kernel) (by decide +kernel) cd_o33 rfl ?_
        refine pe_iload (j := 5) (by decide +kernel) rfl ?_
        refine pe_iload (j := 6) (by decide +kernel) rfl ?_
        refine pi_S (j := 50) (mj := 52) (by decide +kernel) (by decide +kernel) rfl ?_
        show pmE pg X pg_tyl pg_cl (d) 52 0 [.int v5, .int v11] [] (cd f A R wr) _
        refine pe_iload_n (j := 0) (by decide +kernel) rfl ?_
        refine pe_bipushv (n := 9) (v := 9) (by decide +kernel) (by decide +kernel) ?_
        refine pz_mul (by decide +kernel) rfl kz_9 (by omega) (by omega) (fun z12 hz12 => ?_)
        refine pe_iload_n (j := 1) (by decide +kernel) rfl ?_
        refine pz_add (by decide +kernel) hz12 rfl (by omega) (by omega) (fun z13 hz13 => ?_)
        clear hz12
        refine pe_iret (by decide +kernel) rfl rfl ⟨rfl, rfl, ?_⟩
        show pmE pg X pg_tyl pg_cl (d + 1) 85 70 [.ref 33, .int x1, .int x2, .int x3, .int x4, .int v5, .int v11] [.int z13, .ref 39] (cd f A R wr) _
        refine pe_iconstv (n := 0) (v := 0) (by decide +kernel) (by decide +kernel) ?_
        refine pe_aload_n (j := 0) (by decide +kernel) rfl ?_
        refine pe_get (j := 18) (ci := 7) (n := 3) (by decide +kernel) (by decide +kernel) cd_o33 rfl ?_
        refine pe_iload (j := 5) (by decide +kernel) rfl ?_
        refine pe_iload (j := 6) (by decide +kernel) rfl ?_
        refine pi_S (j := 50) (mj := 52) (by decide +kernel) (by decide +kernel) rfl ?_
        show pmE pg X pg_tyl pg_cl (d) 52 0 [.int v5, .int v11] [] (cd f A R wr) _
        refine pe_iload_n (j := 0) (by decide +kernel) rfl ?_
        refine pe_bipushv (n := 9) (v := 9) (by decide +kernel) (by decide +kernel) ?_
        refine pz_mul (by decide +kernel) rfl kz_9 (by omega) (by omega) (fun z14 hz14 => ?_)
        refine pe_iload_n (j := 1) (by decide +kernel) rfl ?_
        refine pz_add (by decide +kernel) hz14 rfl (by omega) (by omega) (fun z15 hz15 => ?_)
        clear hz14
        refine pe_iret (by decide +kernel) rfl rfl ⟨rfl, rfl, ?_⟩
        show pmE pg X pg_tyl pg_cl (d + 1) 85 82 [.ref 33, .int x1, .int x2, .int x3, .int x4, .int v5, .int v11] [.int z15, .ref 39, .int 0, .int z13, .ref 39] (cd f A R wr) _
        refine pz_iald (by decide +kernel) cd_a39 (cl_39 hI) hz15 (by omega) (by omega) (fun v16 ev16 => ?_)
        clear hz15
        refine pe_iload_n (j := 3) (by decide +kernel) rfl ?_
        refine pw_sub (by decide +kernel) (fun z17 => ?_)
        have hl19 := kz_0
        have lw20 := zi_lo z17
        have uw20 := zi_hi z17
        refine pz_max (j := 54) (c := 2147483647) (by decide +kernel) (by decide +kernel) (Nat.le_of_ble_eq_true rfl) kz_0 rfl (by omega) (by omega) (fun z18 hz18 => ?_)
        refine cz_st39 (by decide +kernel) hI hz13 (by omega) (by omega) (fun A21 eA21 hIA21 => ?_)
        refine pz_iinc (j := 4) (n := 1) (by decide +kernel) rfl rfl (by decide +kernel) (by omega) (by omega) (fun z22 hz22 => ?_)
        show pmE pg X pg_tyl pg_cl (d + 1) 85 92 [.ref 33, .int x1, .int x2, .int x3, .int z22, .int v5, .int v11] [] (cd f A21 R wr) _
        refine pe_goto (off := (-75)) (t := 17) (by decide +kernel) (by decide) rfl ?_
        exact ih A21 z22 (.int v5) (.int v11) hIA21 (fun k n39 => (upa_fr eA21 n39).trans ((hF k n39))) (by omega) (by omega)
      · skip
        clear hz6
        refine pe_iload (j := 4) (by decide +kernel) rfl ?_
        refine pe_iconstv (n := 1) (v := 1) (by decide +kernel) (by decide +kernel) ?_
        refine pz_add (by decide +kernel) rfl kz_1 (by omega) (by omega) (fun z23 hz23 => ?_)
        refine pe_goto (off := 4) (t := 53) (by decide +kernel) (by decide) rfl ?_
        refine pz_add (by decide +kernel) kz_4 hz23 (by omega) (by omega) (fun z24 hz24 => ?_)
        clear hz23
        refine pi_V (j := 100) (mj := 84) (by decide +kernel) (cll_V (args := [.int z24, .int x1]) (n := 2) (by decide +kernel) rfl rfl cd_o33 (by decide +kernel) (Nat.le_of_ble_eq_true rfl) (Nat.le_of_ble_eq_true rfl)) ?_
        show pmE pg X pg_tyl pg_cl (d) 84 0 [.ref 33, .int x1, .int z24] [] (cd f A R wr) _
        refine pe_aload_n (j := 0) (by decide +kernel) rfl ?_
        refine pe_get (j := 22) (ci := 7) (n := 4) (by decide +kernel) (by decide +kernel) cd_o33 rfl ?_
        refine pe_iload_n (j := 1) (by decide +kernel) rfl ?_
        refine pe_bipushv (n := 10) (v := 10) (by decide +kernel) (by decide +kernel) ?_
        refine pz_mul (by decide +kernel) rfl kz_10 (by omega) (by omega) (fun z25 hz25 => ?_)
        refine pe_iload_n (j := 2) (by decide +kernel) rfl ?_
        refine pz_add (by decide +kernel) hz25 hz24 (by omega) (by omega) (fun z26 hz26 => ?_)
        clear hz25
        refine pz_iald (by decide +kernel) cd_a40 (cl_40 hI) hz26 (by omega) (by omega) (fun v27 ev27 => ?_)
        have rv27 : 0 ≤ v27.toInt ∧ v27.toInt ≤ 8 := ct1_w (ct_40 hI ev27) (by omega)
        rw [show A 40 = A0 40 from (hF 40 (by decide))] at ev27
        clear hz26
        refine pe_iret (by decide +kernel) rfl rfl ⟨rfl, rfl, ?_⟩
        show pmE pg X pg_tyl pg_cl (d + 1) 85 57 [.ref 33, .int x1, .int x2, .int x3, .int x4, .int v5, u6] [.int v27] (cd f A R wr) _
        refine pe_istore (j := 6) (ls' := [.ref 33, .int x1, .int x2, .int x3, .int x4, .int v5, .int v27]) (by decide +kernel) (Nat.le_of_ble_eq_true rfl) rfl ?_
        refine pe_aload_n (j := 0) (by decide +kernel) rfl ?_
        refine pe_get (j := 18) (ci := 7) (n := 3) (by decide +kernel) (by decide +kernel) cd_o33 rfl ?_
        refine pe_iload (j := 5) (by decide +kernel) rfl ?_
        refine pe_iload (j := 6) (by decide +kernel) rfl ?_
        refine pi_S (j := 50) (mj := 52) (by decide +kernel) (by decide +kernel) rfl ?_
        show pmE pg X pg_tyl pg_cl (d) 52 0 [.int v5, .int v27] [] (cd f A R wr) _
        refine pe_iload_n (j := 0) (by decide +kernel) rfl ?_
        refine pe_bipushv (n := 9) (v := 9) (by decide +kernel) (by decide +kernel) ?_
        refine pz_mul (by decide +kernel) rfl kz_9 (by omega) (by omega) (fun z28 hz28 => ?_)
        refine pe_iload_n (j := 1) (by decide +kernel) rfl ?_
        refine pz_add (by decide +kernel) hz28 rfl (by omega) (by omega) (fun z29 hz29 => ?_)
        clear hz28
        refine pe_iret (by decide +kernel) rfl rfl ⟨rfl, rfl, ?_⟩
        show pmE pg X pg_tyl pg_cl (d + 1) 85 70 [.ref 33, .int x1, .int x2, .int x3, .int x4, .int v5, .int v27] [.int z29, .ref 39] (cd f A R wr) _
        refine pe_iconstv (n := 0) (v := 0) (by decide +kernel) (by decide +kernel) ?_
        refine pe_aload_n (j := 0) (by decide +kernel) rfl ?_
        refine pe_get (j := 18) (ci := 7) (n := 3) (by decide +kernel) (by decide +kernel) cd_o33 rfl ?_
        refine pe_iload (j := 5) (by decide +kernel) rfl ?_
        refine pe_iload (j := 6) (by decide +kernel) rfl ?_
        refine pi_S (j := 50) (mj := 52) (by decide +kernel) (by decide +kernel) rfl ?_
        show pmE pg X pg_tyl pg_cl (d) 52 0 [.int v5, .int v27] [] (cd f A R wr) _
        refine pe_iload_n (j := 0) (by decide +kernel) rfl ?_
        refine pe_bipushv (n := 9) (v := 9) (by decide +kernel) (by decide +kernel) ?_
        refine pz_mul (by decide +kernel) rfl kz_9 (by omega) (by omega) (fun z30 hz30 => ?_)
        refine pe_iload_n (j := 1) (by decide +kernel) rfl ?_
        refine pz_add (by decide +kernel) hz30 rfl (by omega) (by omega) (fun z31 hz31 => ?_)
        clear hz30
        refine pe_iret (by decide +kernel) rfl rfl ⟨rfl, rfl, ?_⟩
        show pmE pg X pg_tyl pg_cl (d + 1) 85 82 [.ref 33, .int x1, .int x2, .int x3, .int x4, .int v5, .int v27] [.int z31, .ref 39, .int 0, .int z29, .ref 39] (cd f A R wr) _
        refine pz_iald (by decide +kernel) cd_a39 (cl_39 hI) hz31 (by omega) (by omega) (fun v32 ev32 => ?_)
        clear hz31
        refine pe_iload_n (j := 3) (by decide +kernel) rfl ?_
        refine pw_sub (by decide +kernel) (fun z33 => ?_)
        have hl35 := kz_0
        have lw36 := zi_lo z33
        have uw36 := zi_hi z33
        refine pz_max (j := 54) (c := 2147483647) (by decide +kernel) (by decide +kernel) (Nat.le_of_ble_eq_true rfl) kz_0 rfl (by omega) (by omega) (fun z34 hz34 => ?_)
        refine cz_st39 (by decide +kernel) hI hz29 (by omega) (by omega) (fun A37 eA37 hIA37 => ?_)
        refine pz_iinc (j := 4) (n := 1) (by decide +kernel) rfl rfl (by decide +kernel) (by omega) (by omega) (fun z38 hz38 => ?_)
        show pmE pg X pg_tyl pg_cl (d + 1) 85 92 [.ref 33, .int x1, .int x2, .int x3, .int z38, .int v5, .int v27] [] (cd f A37 R wr) _
        refine pe_goto (off := (-75)) (t := 17) (by decide +kernel) (by decide) rfl ?_
        exact ih A37 z38 (.int v5) (.int v27) hIA37 (fun k n39 => (upa_fr eA37 n39).trans ((hF k n39))) (by omega) (by omega)
set_option maxRecDepth 100000 in
set_option maxHeartbeats 8000000 in
theorem CM_85 {X : pm_X} {d : Nat} {wr : pm_W} {f : Nat → Int32} {A : Nat → List Int32} {R : Nat → Value} {x1 : Int32} (hX : XO X) (hI : CI f A R) (gx1 : (0 ≤ x1.toInt ∧ x1.toInt ≤ 36)) : pmE pg X pg_tyl pg_cl (d + 1) 85 0 (pm_ent (pm_max pg 85) [.ref 33, .int x1]) [] (cd f A R wr) (fun q => ∃ (A' : Nat → List Int32), q = (none, cd f A' R wr, 0, 0) ∧ CI f A' R ∧ (∀ k : Nat, k ≠ 39 → k ≠ 40 → A' k = A k) ∧ ((True))) := by
  show pmE pg X pg_tyl pg_cl (d + 1) 85 0 [.ref 33, .int x1, pm_dead, pm_dead, pm_dead, pm_dead, pm_dead] [] (cd f A R wr) _
  refine pe_aload_n (j := 0) (by decide +kernel) rfl ?_
  refine pe_iload_n (j := 1) (by decide +kernel) rfl ?_
  refine pe_iconstv (n := 0) (v := 0) (by decide +kernel) (by decide +kernel) ?_
  refine pi_V (j := 100) (mj := 84) (by decide +kernel) (cll_V (args := [.int 0, .int x1]) (n := 2) (by decide +kernel) rfl rfl cd_o33 (by decide +kernel) (Nat.le_of_ble_eq_true rfl) (Nat.le_of_ble_eq_true rfl)) ?_
  show pmE pg X pg_tyl pg_cl (d) 84 0 [.ref 33, .int x1, .int 0] [] (cd f A R wr) _
  refine pe_aload_n (j := 0) (by decide +kernel) rfl ?_
  refine pe_get (j := 22) (ci := 7) (n := 4) (by decide +kernel) (by decide +kernel) cd_o33 rfl ?_
  refine pe_iload_n (j := 1) (by decide +kernel) rfl ?_
  refine pe_bipushv (n := 10) (v := 10) (by decide +kernel) (by decide +kernel) ?_
  refine pz_mul (by decide +kernel) rfl kz_10 (by omega) (by omega) (fun z1 hz1 => ?_)
  refine pe_iload_n (j := 2) (by decide +kernel) rfl ?_
  refine pz_add (by decide +kernel) hz1 kz_0 (by omega) (by omega) (fun z2 hz2 => ?_)
  clear hz1
  refine pz_iald (by decide +kernel) cd_a40 (cl_40 hI) hz2 (by omega) (by omega) (fun v3 ev3 => ?_)
  have rv3 : 0 ≤ v3.toInt ∧ v3.toInt ≤ 6 := ct1_m (ct_40 hI ev3) (by omega)
  clear hz2
  refine pe_iret (by decide +kernel) rfl rfl ⟨rfl, rfl, ?_⟩
  show pmE pg X pg_tyl pg_cl (d + 1) 85 6 [.ref 33, .int x1, pm_dead, pm_dead, pm_dead, pm_dead, pm_dead] [.int v3] (cd f A R wr) _
  refine pe_istore_n (j := 2) (ls' := [.ref 33, .int x1, .int v3, pm_dead, pm_dead, pm_dead, pm_dead]) (by decide +kernel) (Nat.le_of_ble_eq_true rfl) rfl ?_
  refine pe_aload_n (j := 0) (by decide +kernel) rfl ?_
  refine pe_iload_n (j := 1) (by decide +kernel) rfl ?_
  refine pe_iconstv (n := 1) (v := 1) (by decide +kernel) (by decide +kernel) ?_
  refine pi_V (j := 100) (mj := 84) (by decide +kernel) (cll_V (args := [.int 1, .int x1]) (n := 2) (by decide +kernel) rfl rfl cd_o33 (by decide +kernel) (Nat.le_of_ble_eq_true rfl) (Nat.le_of_ble_eq_true rfl)) ?_
  show pmE pg X pg_tyl pg_cl (d) 84 0 [.ref 33, .int x1, .int 1] [] (cd f A R wr) _
  refine pe_aload_n (j := 0) (by decide +kernel) rfl ?_
  refine pe_get (j := 22) (ci := 7) (n := 4) (by decide +kernel) (by decide +kernel) cd_o33 rfl ?_
  refine pe_iload_n (j := 1) (by decide +kernel) rfl ?_
  refine pe_bipushv (n := 10) (v := 10) (by decide +kernel) (by decide +kernel) ?_
  refine pz_mul (by decide +kernel) rfl kz_10 (by omega) (by omega) (fun z4 hz4 => ?_)
  refine pe_iload_n (j := 2) (by decide +kernel) rfl ?_
  refine pz_add (by decide +kernel) hz4 kz_1 (by omega) (by omega) (fun z5 hz5 => ?_)
  clear hz4
  refine pz_iald (by decide +kernel) cd_a40 (cl_40 hI) hz5 (by omega) (by omega) (fun v6 ev6 => ?_)
  clear hz5
  refine pe_iret (by decide +kernel) rfl rfl ⟨rfl, rfl, ?_⟩
  show pmE pg X pg_tyl pg_cl (d + 1) 85 13 [.ref 33, .int x1, .int v3, pm_dead, pm_dead, pm_dead, pm_dead] [.int v6] (cd f A R wr) _
  refine pe_istore_n (j := 3) (ls' := [.ref 33, .int x1, .int v3, .int v6, pm_dead, pm_dead, pm_dead]) (by decide +kernel) (Nat.le_of_ble_eq_true rfl) rfl ?_
  refine pe_iconstv (n := 0) (v := 0) (by decide +kernel) (by decide +kernel) ?_
  refine pe_istore (j := 4) (ls' := [.ref 33, .int x1, .int v3, .int v6, .int 0, pm_dead, pm_dead]) (by decide +kernel) (Nat.le_of_ble_eq_true rfl) rfl ?_
  refine CL_85_17 hX (by omega) (by omega) (fun A7 y8 u9 u10 hIy11 hFA7 gy8 hr12 => ?_) 7 A 0 (pm_dead) (pm_dead) hI (fun k _ => rfl) (by decide +kernel) (by decide +kernel)
  refine pe_aload_n (j := 0) (by decide +kernel) rfl ?_
  refine pe_get (j := 22) (ci := 7) (n := 4) (by decide +kernel) (by decide +kernel) cd_o33 rfl ?_
  refine pe_iload_n (j := 1) (by decide +kernel) rfl ?_
  refine pe_bipushv (n := 10) (v := 10) (by decide +kernel) (by decide +kernel) ?_
  refine pz_mul (by decide +kernel) rfl kz_10 (by omega) (by omega) (fun z13 hz13 => ?_)
  refine pe_iconstv (n := 3) (v := 3) (by decide +kernel) (by decide +kernel) ?_
  refine pz_add (by decide +kernel) hz13 kz_3 (by omega) (by omega) (fun z14 hz14 => ?_)
  clear hz13
  refine pe_iconstv (n := 0) (v := 0) (by decide +kernel) (by decide +kernel) ?_
  refine cz_st40 (by decide +kernel) hIy11 hz14 (by omega) (by omega) (by rw [kz_0]; simp only [CT]; omega) (fun A15 eA15 hIA15 => ?_)
  exact pe_vret (by decide +kernel) rfl ⟨A15, rfl, hIA15, (fun k n39 n40 => (upa_fr eA15 n40).trans ((hFA7 k n39))), trivial⟩
set_option maxRecDepth 100000 in
set_option maxHeartbeats 8000000 in
theorem CL_86_45 {X : pm_X} {d : Nat} {wr : pm_W} {Q : pm_R → Prop} {f : Nat → Int32} {A0 : Nat → List Int32} {R : Nat → Value} {x1 : Int32} {v : Nat} (hX : XO X) (hv : VV v) (hR0 : R 0 = .ref v) (gx1 : (0 ≤ x1.toInt ∧ x1.toInt ≤ 8)) (k_84_0 : ∀ (A' : Nat → List Int32) (y2 : Int32), CI f A' R → (∀ k : Nat, k ≠ 39 → A' k = A0 k) → (0 ≤ y2.toInt ∧ y2.toInt ≤ 9) → pmE pg X pg_tyl pg_cl (d + 3) 86 84 [.ref 33, .int x1, .int y2] [] (cd f A' R wr) Q) : ∀ (m : Nat) (A : Nat → List Int32) (x2 : Int32), CI f A R → (∀ k : Nat, k ≠ 39 → A k = A0 k) → (0 ≤ x2.toInt ∧ x2.toInt ≤ 9) → 9 - x2.toInt < (m : Int) → pmE pg X pg_tyl pg_cl (d + 3) 86 45 [.ref 33, .int x1, .int x2] [] (cd f A R wr) Q := by
  have bv := VV_b hv
  intro m
  induction m with
  | zero =>
    intro A x2 hI hF gx2 hm
    exfalso
    have l0 := zi_lo x2
    have u0 := zi_hi x2
    omega
  | succ m ih =>
    intro A x2 hI hF gx2 hm
    refine pe_iload_n (j := 2) (by decide +kernel) rfl ?_
    refine pe_aload_n (j := 0) (by decide +kernel) rfl ?_
    refine pe_get (j := 12) (ci := 7) (n := 0) (by decide +kernel) (by decide +kernel) cd_o33 rfl ?_
    refine pe_topV (v := .ref v) (hR0) ?_
    refine pe_get (j := 121) (ci := 9) (n := 0) (by decide +kernel) (by decide +kernel) (cv_o hv) rfl ?_
    have hr_f_16v := cv_people hv hI
    refine pz_icmp_ge (off := 31) (t := 84) (by decide +kernel) (by decide) rfl rfl rfl (fun h1 => ?_) (fun h1 => ?_)
    · skip
      exact k_84_0 A x2 hI (fun k n39 => (hF k n39)) (by omega)
    · skip
      refine pe_aload_n (j := 0) (by decide +kernel) rfl ?_
      refine pe_get (j := 18) (ci := 7) (n := 3) (by decide +kernel) (by decide +kernel) cd_o33 rfl ?_
      refine pe_iload_n (j := 1) (by decide +kernel) rfl ?_
      refine pe_iload_n (j := 2) (by decide +kernel) rfl ?_
      refine pi_S (j := 50) (mj := 52) (by decide +kernel) (by decide +kernel) rfl ?_
      show pmE pg X pg_tyl pg_cl (d + 2) 52 0 [.int x1, .int x2] [] (cd f A R wr) _
      refine pe_iload_n (j := 0) (by decide +kernel) rfl ?_
      refine pe_bipushv (n := 9) (v := 9) (by decide +kernel) (by decide +kernel) ?_
      refine pz_mul (by decide +kernel) rfl kz_9 (by omega) (by omega) (fun z2 hz2 => ?_)
      refine pe_iload_n (j := 1) (by decide +kernel) rfl ?_
      refine pz_add (by decide +kernel) hz2 rfl (by omega) (by omega) (fun z3 hz3 => ?_)
      clear hz2
      refine pe_iret (by decide +kernel) rfl rfl ⟨rfl, rfl, ?_⟩
      show pmE pg X pg_tyl pg_cl (d + 3) 86 65 [.ref 33, .int x1, .int x2] [.int z3, .ref 39] (cd f A R wr) _
      refine pe_iconstv (n := 0) (v := 0) (by decide +kernel) (by decide +kernel) ?_
      refine cz_st39 (by decide +kernel) hI hz3 (by omega) (by omega) (fun A4 eA4 hIA4 => ?_)
      refine pe_aload_n (j := 0) (by decide +kernel) rfl ?_
      refine pe_get (j := 18) (ci := 7) (n := 3) (by decide +kernel) (by decide +kernel) cd_o33 rfl ?_
      refine pe_iload_n (j := 2) (by decide +kernel) rfl ?_
      refine pe_iload_n (j := 1) (by decide +kernel) rfl ?_
      refine pi_S (j := 50) (mj := 52) (by decide +kernel) (by decide +kernel) rfl ?_
      show pmE pg X pg_tyl pg_cl (d + 2) 52 0 [.int x2, .int x1] [] (cd f A4 R wr) _
      refine pe_iload_n (j := 0) (by decide +kernel) rfl ?_
      refine pe_bipushv (n := 9) (v := 9) (by decide +kernel) (by decide +kernel) ?_
      refine pz_mul (by decide +kernel) rfl kz_9 (by omega) (by omega) (fun z5 hz5 => ?_)
      refine pe_iload_n (j := 1) (by decide +kernel) rfl ?_
      refine pz_add (by decide +kernel) hz5 rfl (by omega) (by omega) (fun z6 hz6 => ?_)
      clear hz5
      refine pe_iret (by decide +kernel) rfl rfl ⟨rfl, rfl, ?_⟩
      show pmE pg X pg_tyl pg_cl (d + 3) 86 76 [.ref 33, .int x1, .int x2] [.int z6, .ref 39] (cd f A4 R wr) _
      refine pe_iconstv (n := 0) (v := 0) (by decide +kernel) (by decide +kernel) ?_
      refine cz_st39 (by decide +kernel) hIA4 hz6 (by omega) (by omega) (fun A7 eA7 hIA7 => ?_)
      refine pz_iinc (j := 2) (n := 1) (by decide +kernel) rfl rfl (by decide +kernel) (by omega) (by omega) (fun z8 hz8 => ?_)
      show pmE pg X pg_tyl pg_cl (d + 3) 86 81 [.ref 33, .int x1, .int z8] [] (cd f A7 R wr) _
      refine pe_goto (off := (-36)) (t := 45) (by decide +kernel) (by decide) rfl ?_
      exact ih A7 z8 hIA7 (fun k n39 => (upa_fr eA7 n39).trans ((upa_fr eA4 n39).trans ((hF k n39)))) (by omega) (by omega)
set_option maxRecDepth 100000 in
set_option maxHeartbeats 8000000 in
theorem CL_86_15 {X : pm_X} {d : Nat} {wr : pm_W} {Q : pm_R → Prop} {f : Nat → Int32} {A0 : Nat → List Int32} {R : Nat → Value} {x1 : Int32} {v : Nat} (hX : XO X) (hv : VV v) (hR0 : R 0 = .ref v) (gx1 : (0 ≤ x1.toInt ∧ x1.toInt ≤ 8)) (k_43_0 : ∀ (A' : Nat → List Int32) (y2 : Int32), CI f A' R → (∀ k : Nat, k ≠ 39 → k ≠ 40 → A' k = A0 k) → (0 ≤ y2.toInt ∧ y2.toInt ≤ 37) → pmE pg X pg_tyl pg_cl (d + 3) 86 43 [.ref 33, .int x1, .int y2] [] (cd f A' R wr) Q) : ∀ (m : Nat) (A : Nat → List Int32) (x2 : Int32), CI f A R → (∀ k : Nat, k ≠ 39 → k ≠ 40 → A k = A0 k) → (0 ≤ x2.toInt ∧ x2.toInt ≤ 37) → 37 - x2.toInt < (m : Int) → pmE pg X pg_tyl pg_cl (d + 3) 86 15 [.ref 33, .int x1, .int x2] [] (cd f A R wr) Q := by
  have bv := VV_b hv
  intro m
  induction m with
  | zero =>
    intro A x2 hI hF gx2 hm
    exfalso
    have l0 := zi_lo x2
    have u0 := zi_hi x2
    omega
  | succ m ih =>
    intro A x2 hI hF gx2 hm
    refine pe_iload_n (j := 2) (by decide +kernel) rfl ?_
    refine pe_aload_n (j := 0) (by decide +kernel) rfl ?_
    refine pe_get (j := 32) (ci := 7) (n := 2) (by decide +kernel) (by decide +kernel) cd_o33 rfl ?_
    have hr_f_530 := cf_530 hI
    refine pz_icmp_ge (off := 23) (t := 43) (by decide +kernel) (by decide) rfl rfl rfl (fun h1 => ?_) (fun h1 => ?_)
    · skip
      exact k_43_0 A x2 hI (fun k n39 n40 => (hF k n39 n40)) (by omega)
    · skip
      refine pe_aload_n (j := 0) (by decide +kernel) rfl ?_
      refine pe_iload_n (j := 2) (by decide +kernel) rfl ?_
      refine pe_iload_n (j := 1) (by decide +kernel) rfl ?_
      refine pz_callV (j := 118) (mj := 87) (by decide +kernel) (cll_V (args := [.int x1, .int x2]) (n := 2) (by decide +kernel) rfl rfl cd_o33 (by decide +kernel) (Nat.le_of_ble_eq_true rfl) (Nat.le_of_ble_eq_true rfl)) (CM_87 hX hI (by omega)) (fun q2a q2b q2c q2d hqq2 => ?_)
      obtain ⟨rq2, eq2, kq2⟩ := hqq2
      cases eq2
      refine ⟨rfl, rfl, ?_⟩
      rcases kq2 with kq2 | kq2
      · skip
        obtain ⟨erq2, kq2⟩ := kq2
        subst erq2
        show pmE pg X pg_tyl pg_cl (d + 3) 86 29 [.ref 33, .int x1, .int x2] [.int 0] (cd f A R wr) _
        refine pz_if_eq (off := 8) (t := 37) (by decide +kernel) (by decide) rfl kz_0 (fun h3 => ?_) (fun h3 => by omega)
        refine pz_iinc (j := 2) (n := 1) (by decide +kernel) rfl rfl (by decide +kernel) (by omega) (by omega) (fun z4 hz4 => ?_)
        show pmE pg X pg_tyl pg_cl (d + 3) 86 40 [.ref 33, .int x1, .int z4] [] (cd f A R wr) _
        refine pe_goto (off := (-25)) (t := 15) (by decide +kernel) (by decide) rfl ?_
        exact ih A z4 hI (fun k n39 n40 => (hF k n39 n40)) (by omega) (by omega)
      · skip
        obtain ⟨erq2, kq2⟩ := kq2
        subst erq2
        show pmE pg X pg_tyl pg_cl (d + 3) 86 29 [.ref 33, .int x1, .int x2] [.int 1] (cd f A R wr) _
        refine pz_if_eq (off := 8) (t := 37) (by decide +kernel) (by decide) rfl kz_1 (fun h5 => by omega) (fun h5 => ?_)
        refine pe_aload_n (j := 0) (by decide +kernel) rfl ?_
        refine pe_iload_n (j := 2) (by decide +kernel) rfl ?_
        refine pz_callV (j := 114) (mj := 85) (by decide +kernel) (cll_V (args := [.int x2]) (n := 1) (by decide +kernel) rfl rfl cd_o33 (by decide +kernel) (Nat.le_of_ble_eq_true rfl) (Nat.le_of_ble_eq_true rfl)) (CM_85 hX hI (by omega)) (fun q6a q6b q6c q6d hqq6 => ?_)
        obtain ⟨A7, eq6, hIq6, hFq6, kq6⟩ := hqq6
        cases eq6
        refine ⟨rfl, rfl, ?_⟩
        show pmE pg X pg_tyl pg_cl (d + 3) 86 37 [.ref 33, .int x1, .int x2] [] (cd f A7 R wr) _
        refine pz_iinc (j := 2) (n := 1) (by decide +kernel) rfl rfl (by decide +kernel) (by omega) (by omega) (fun z8 hz8 => ?_)
        show pmE pg X pg_tyl pg_cl (d + 3) 86 40 [.ref 33, .int x1, .int z8] [] (cd f A7 R wr) _
        refine pe_goto (off := (-25)) (t := 15) (by decide +kernel) (by decide) rfl ?_
        exact ih A7 z8 hIq6 (fun k n39 n40 => ((hFq6 k n39 n40)).trans ((hF k n39 n40))) (by omega) (by omega)
set_option maxRecDepth 100000 in
set_option maxHeartbeats 8000000 in
theorem CM_86 {X : pm_X} {d : Nat} {wr : pm_W} {f : Nat → Int32} {A : Nat → List Int32} {R : Nat → Value} {x1 : Int32} {v : Nat} (hX : XO X) (hI : CI f A R) (hv : VV v) (hR0 : R 0 = .ref v) : pmE pg X pg_tyl pg_cl (d + 3) 86 0 (pm_ent (pm_max pg 86) [.ref 33, .int x1]) [] (cd f A R wr) (fun q => ∃ (A' : Nat → List Int32) (r : Int32), q = (some (.int r), cd f A' R wr, 0, 0) ∧ CI f A' R ∧ (∀ k : Nat, k ≠ 39 → k ≠ 40 → A' k = A k) ∧ ((r = 0 ∧ True) ∨ (r = 1 ∧ (0 ≤ x1.toInt ∧ x1.toInt ≤ 8)))) := by
  have bv := VV_b hv
  show pmE pg X pg_tyl pg_cl (d + 3) 86 0 [.ref 33, .int x1, pm_dead] [] (cd f A R wr) _
  refine pe_aload_n (j := 0) (by decide +kernel) rfl ?_
  refine pe_get (j := 12) (ci := 7) (n := 0) (by decide +kernel) (by decide +kernel) cd_o33 rfl ?_
  refine pe_topV (v := .ref v) (hR0) ?_
  refine pe_iload_n (j := 1) (by decide +kernel) rfl ?_
  refine pi_V (j := 86) (mj := 61) (by decide +kernel) (cll_V (args := [.int x1]) (n := 1) (by decide +kernel) rfl rfl (cv_o hv) (by decide +kernel) (Nat.le_of_ble_eq_true rfl) (Nat.le_of_ble_eq_true rfl)) ?_
  show pmE pg X pg_tyl pg_cl (d + 2) 61 0 [.ref v, .int x1] [] (cd f A R wr) _
  refine pe_iload_n (j := 1) (by decide +kernel) rfl ?_
  have lw2 := zi_lo x1
  have uw2 := zi_hi x1
  refine pz_if_lt (off := 15) (t := 16) (by decide +kernel) (by decide) rfl rfl (fun h1 => ?_) (fun h1 => ?_)
  · skip
    refine pe_iconstv (n := 0) (v := 0) (by decide +kernel) (by decide +kernel) ?_
    refine pe_iret (by decide +kernel) rfl rfl ⟨rfl, rfl, ?_⟩
    show pmE pg X pg_tyl pg_cl (d + 3) 86 8 [.ref 33, .int x1, pm_dead] [.int 0] (cd f A R wr) _
    refine pz_if_ne (off := 5) (t := 13) (by decide +kernel) (by decide) rfl kz_0 (fun h3 => by omega) (fun h3 => ?_)
    refine pe_iconstv (n := 0) (v := 0) (by decide +kernel) (by decide +kernel) ?_
    exact pe_iret (by decide +kernel) rfl rfl ⟨A, 0, rfl, hI, (fun k n39 n40 => rfl), Or.inl ⟨rfl, trivial⟩⟩
  · skip
    refine pe_iload_n (j := 1) (by decide +kernel) rfl ?_
    refine pe_aload_n (j := 0) (by decide +kernel) rfl ?_
    refine pe_get (j := 9) (ci := 9) (n := 0) (by decide +kernel) (by decide +kernel) (cv_o hv) rfl ?_
    have hr_f_16v := cv_people hv hI
    refine pz_icmp_ge (off := 7) (t := 16) (by decide +kernel) (by decide) rfl rfl rfl (fun h4 => ?_) (fun h4 => ?_)
    · skip
      refine pe_iconstv (n := 0) (v := 0) (by decide +kernel) (by decide +kernel) ?_
      refine pe_iret (by decide +kernel) rfl rfl ⟨rfl, rfl, ?_⟩
      show pmE pg X pg_tyl pg_cl (d + 3) 86 8 [.ref 33, .int x1, pm_dead] [.int 0] (cd f A R wr) _
      refine pz_if_ne (off := 5) (t := 13) (by decide +kernel) (by decide) rfl kz_0 (fun h5 => by omega) (fun h5 => ?_)
      refine pe_iconstv (n := 0) (v := 0) (by decide +kernel) (by decide +kernel) ?_
      exact pe_iret (by decide +kernel) rfl rfl ⟨A, 0, rfl, hI, (fun k n39 n40 => rfl), Or.inl ⟨rfl, trivial⟩⟩
    · skip
      refine pe_iconstv (n := 1) (v := 1) (by decide +kernel) (by decide +kernel) ?_
      refine pe_goto (off := 4) (t := 17) (by decide +kernel) (by decide) rfl ?_
      refine pe_iret (by decide +kernel) rfl rfl ⟨rfl, rfl, ?_⟩
      show pmE pg X pg_tyl pg_cl (d + 3) 86 8 [.ref 33, .int x1, pm_dead] [.int 1] (cd f A R wr) _
      refine pz_if_ne (off := 5) (t := 13) (by decide +kernel) (by decide) rfl kz_1 (fun h6 => ?_) (fun h6 => by omega)
      refine pe_iconstv (n := 0) (v := 0) (by decide +kernel) (by decide +kernel) ?_
      refine pe_istore_n (j := 2) (ls' := [.ref 33, .int x1, .int 0]) (by decide +kernel) (Nat.le_of_ble_eq_true rfl) rfl ?_
      refine CL_86_15 hX hv (hR0) (by omega) (fun A7 y8 hIy9 hFA7 gy8 => ?_) 38 A 0 hI (fun k _ _ => rfl) (by decide +kernel) (by decide +kernel)
      refine pe_iconstv (n := 0) (v := 0) (by decide +kernel) (by decide +kernel) ?_
      refine pe_istore_n (j := 2) (ls' := [.ref 33, .int x1, .int 0]) (by decide +kernel) (Nat.le_of_ble_eq_true rfl) rfl ?_
      refine CL_86_45 hX hv (hR0) (by omega) (fun A10 y11 hIy12 hFA10 gy11 => ?_) 10 A7 0 hIy9 (fun k _ => rfl) (by decide +kernel) (by decide +kernel)
      refine pe_iconstv (n := 1) (v := 1) (by decide +kernel) (by decide +kernel) ?_
      exact pe_iret (by decide +kernel) rfl rfl ⟨A10, 1, rfl, hIy12, (fun k n39 n40 => ((hFA10 k n39)).trans ((hFA7 k n39 n40))), Or.inr (⟨rfl, (by omega)⟩)⟩
