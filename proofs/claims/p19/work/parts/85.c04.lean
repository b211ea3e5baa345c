set_option maxRecDepth 100000 in
set_option maxHeartbeats 8000000 in
theorem CL_142_7 {X : pm_X} {d : Nat} {wr : pm_W} {Q : pm_R → Prop} {f : Nat → Int32} {A : Nat → List Int32} {R : Nat → Value} {x1 x2 : Int32} {v : Nat} (hX : XO X) (hI : CI f A R) (hv : VV v) (hR0 : R 0 = .ref v) (k_34_0 : ∀ (y3 : Int32) (y4 : Int32), (0 ≤ y4.toInt ∧ y4.toInt ≤ 9) → pmE pg X pg_tyl pg_cl (d + 4) 142 34 [.ref 33, .int x1, .int x2, .int y3, .int y4] [] (cd f A R wr) Q) : ∀ (m : Nat) (x3 : Int32) (x4 : Int32), (0 ≤ x4.toInt ∧ x4.toInt ≤ 9) → 9 - x4.toInt < (m : Int) → pmE pg X pg_tyl pg_cl (d + 4) 142 7 [.ref 33, .int x1, .int x2, .int x3, .int x4] [] (cd f A R wr) Q := by
  have bv := VV_b hv
  intro m
  induction m with
  | zero =>
    intro x3 x4 gx4 hm
    exfalso
    have l0 := zi_lo x4
    have u0 := zi_hi x4
    omega
  | succ m ih =>
    intro x3 x4 gx4 hm
    refine pe_iload (j := 4) (by decide +kernel) rfl ?_
    refine pe_aload_n (j := 0) (by decide +kernel) rfl ?_
    refine pe_get (j := 12) (ci := 7) (n := 0) (by decide +kernel) (by decide +kernel) cd_o33 rfl ?_
    refine pe_topV (v := .ref v) (hR0) ?_
    refine pe_get (j := 121) (ci := 9) (n := 0) (by decide +kernel) (by decide +kernel) (cv_o hv) rfl ?_
    have hr_f_16v := cv_people hv hI
    refine pz_icmp_ge (off := 18) (t := 34) (by decide +kernel) (by decide) rfl rfl rfl (fun h1 => ?_) (fun h1 => ?_)
    · skip
      exact k_34_0 x3 x4 (by omega)
    · skip
      refine pe_iload_n (j := 3) (by decide +kernel) rfl ?_
      refine pe_aload_n (j := 0) (by decide +kernel) rfl ?_
      refine pe_iload_n (j := 3) (by decide +kernel) rfl ?_
      refine pe_iload_n (j := 2) (by decide +kernel) rfl ?_
      refine pz_callV (j := 139) (mj := 143) (by decide +kernel) (cll_V (args := [.int x2, .int x3]) (n := 2) (by decide +kernel) rfl rfl cd_o33 (by decide +kernel) (Nat.le_of_ble_eq_true rfl) (Nat.le_of_ble_eq_true rfl)) (CM_143 hX hI hv (hR0)) (fun q2a q2b q2c q2d hqq2 => ?_)
      obtain ⟨rq2, eq2, kq2⟩ := hqq2
      cases eq2
      refine ⟨rfl, rfl, ?_⟩
      show pmE pg X pg_tyl pg_cl (d + 4) 142 26 [.ref 33, .int x1, .int x2, .int x3, .int x4] [.int rq2, .int x3] (cd f A R wr) _
      refine pw_or (by decide +kernel) (fun z3 => ?_)
      refine pe_istore_n (j := 3) (ls' := [.ref 33, .int x1, .int x2, .int z3, .int x4]) (by decide +kernel) (Nat.le_of_ble_eq_true rfl) rfl ?_
      refine pz_iinc (j := 4) (n := 1) (by decide +kernel) rfl rfl (by decide +kernel) (by omega) (by omega) (fun z4 hz4 => ?_)
      show pmE pg X pg_tyl pg_cl (d + 4) 142 31 [.ref 33, .int x1, .int x2, .int z3, .int z4] [] (cd f A R wr) _
      refine pe_goto (off := (-24)) (t := 7) (by decide +kernel) (by decide) rfl ?_
      exact ih z3 z4 (by omega) (by omega)
set_option maxRecDepth 100000 in
set_option maxHeartbeats 8000000 in
theorem CM_142 {X : pm_X} {d : Nat} {wr : pm_W} {f : Nat → Int32} {A : Nat → List Int32} {R : Nat → Value} {x1 x2 : Int32} {v : Nat} (hX : XO X) (hI : CI f A R) (hv : VV v) (hR0 : R 0 = .ref v) : pmE pg X pg_tyl pg_cl (d + 4) 142 0 (pm_ent (pm_max pg 142) [.ref 33, .int x1, .int x2]) [] (cd f A R wr) (fun q => ∃ (r : Int32), q = (some (.int r), cd f A R wr, 0, 0) ∧ ((True ∧ True))) := by
  have bv := VV_b hv
  show pmE pg X pg_tyl pg_cl (d + 4) 142 0 [.ref 33, .int x1, .int x2, pm_dead, pm_dead] [] (cd f A R wr) _
  refine pe_iconstv (n := 1) (v := 1) (by decide +kernel) (by decide +kernel) ?_
  refine pe_iload_n (j := 1) (by decide +kernel) rfl ?_
  refine pw_shl (by decide +kernel) (fun z1 => ?_)
  refine pe_istore_n (j := 3) (ls' := [.ref 33, .int x1, .int x2, .int z1, pm_dead]) (by decide +kernel) (Nat.le_of_ble_eq_true rfl) rfl ?_
  refine pe_iconstv (n := 0) (v := 0) (by decide +kernel) (by decide +kernel) ?_
  refine pe_istore (j := 4) (ls' := [.ref 33, .int x1, .int x2, .int z1, .int 0]) (by decide +kernel) (Nat.le_of_ble_eq_true rfl) rfl ?_
  refine CL_142_7 hX hI hv (hR0) (fun y2 y3 gy3 => ?_) 10 z1 0 (by decide +kernel) (by decide +kernel)
  refine pe_iload_n (j := 3) (by decide +kernel) rfl ?_
  exact pe_iret (by decide +kernel) rfl rfl ⟨y2, rfl, ⟨trivial, trivial⟩⟩
set_option maxRecDepth 100000 in
set_option maxHeartbeats 8000000 in
theorem CL_149_21 {X : pm_X} {d : Nat} {wr : pm_W} {Q : pm_R → Prop} {f : Nat → Int32} {A : Nat → List Int32} {R : Nat → Value} {x1 x2 x3 : Int32} {v : Nat} (hX : XO X) (hI : CI f A R) (hv : VV v) (hR0 : R 0 = .ref v) (gx1 : (0 ≤ x1.toInt ∧ x1.toInt ≤ 8)) (gx2 : (0 ≤ x2.toInt ∧ x2.toInt ≤ 8)) (k_69_0 : ∀ (y4 : Int32) (y5 : Int32), (2 ≤ y5.toInt ∧ y5.toInt ≤ 9) → pmE pg X pg_tyl pg_cl (d + 4) 149 69 [.ref 33, .int x1, .int x2, .int x3, .int y4, .int y5] [] (cd f A R wr) Q) (kr_v : ∀ (r : Int32), (2 ≤ r.toInt ∧ r.toInt ≤ 8) → Q (some (.int r), cd f A R wr, 0, 0)) : ∀ (m : Nat) (x4 : Int32) (x5 : Int32), (2 ≤ x5.toInt ∧ x5.toInt ≤ 9) → 9 - x5.toInt < (m : Int) → pmE pg X pg_tyl pg_cl (d + 4) 149 21 [.ref 33, .int x1, .int x2, .int x3, .int x4, .int x5] [] (cd f A R wr) Q := by
  have bv := VV_b hv
  intro m
  induction m with
  | zero =>
    intro x4 x5 gx5 hm
    exfalso
    have l0 := zi_lo x5
    have u0 := zi_hi x5
    omega
  | succ m ih =>
    intro x4 x5 gx5 hm
    refine pe_iload (j := 5) (by decide +kernel) rfl ?_
    refine pe_aload_n (j := 0) (by decide +kernel) rfl ?_
    refine pe_get (j := 12) (ci := 7) (n := 0) (by decide +kernel) (by decide +kernel) cd_o33 rfl ?_
    refine pe_topV (v := .ref v) (hR0) ?_
    refine pe_get (j := 121) (ci := 9) (n := 0) (by decide +kernel) (by decide +kernel) (cv_o hv) rfl ?_
    have hr_f_16v := cv_people hv hI
    refine pz_icmp_ge (off := 39) (t := 69) (by decide +kernel) (by decide) rfl rfl rfl (fun h1 => ?_) (fun h1 => ?_)
    · skip
      exact k_69_0 x4 x5 (by omega)
    · skip
      refine pe_iload (j := 4) (by decide +kernel) rfl ?_
      refine pe_aload_n (j := 0) (by decide +kernel) rfl ?_
      refine pe_iload (j := 4) (by decide +kernel) rfl ?_
      refine pe_iconstv (n := 1) (v := 1) (by decide +kernel) (by decide +kernel) ?_
      refine pe_iload_n (j := 1) (by decide +kernel) rfl ?_
      refine pz_shl1 (by decide +kernel) rfl (by omega) (by omega) (fun z2 hz2 => ?_)
      refine pe_iconstv (n := (-1)) (v := (-1)) (by decide +kernel) (by decide +kernel) ?_
      refine pw_xor (by decide +kernel) (fun z3 => ?_)
      refine pw_and (by decide +kernel) (fun z4 => ?_)
      refine pe_iload_n (j := 3) (by decide +kernel) rfl ?_
      refine pz_callV (j := 139) (mj := 143) (by decide +kernel) (cll_V (args := [.int x3, .int z4]) (n := 2) (by decide +kernel) rfl rfl cd_o33 (by decide +kernel) (Nat.le_of_ble_eq_true rfl) (Nat.le_of_ble_eq_true rfl)) (CM_143 hX hI hv (hR0)) (fun q5a q5b q5c q5d hqq5 => ?_)
      obtain ⟨rq5, eq5, kq5⟩ := hqq5
      cases eq5
      refine ⟨rfl, rfl, ?_⟩
      show pmE pg X pg_tyl pg_cl (d + 4) 149 48 [.ref 33, .int x1, .int x2, .int x3, .int x4, .int x5] [.int rq5, .int x4] (cd f A R wr) _
      refine pw_or (by decide +kernel) (fun z6 => ?_)
      refine pe_istore (j := 4) (ls' := [.ref 33, .int x1, .int x2, .int x3, .int z6, .int x5]) (by decide +kernel) (Nat.le_of_ble_eq_true rfl) rfl ?_
      refine pe_iload (j := 4) (by decide +kernel) rfl ?_
      refine pe_iload_n (j := 2) (by decide +kernel) rfl ?_
      refine pi_S (j := 110) (mj := 89) (by decide +kernel) (by decide +kernel) rfl ?_
      show pmE pg X pg_tyl pg_cl (d + 3) 89 0 [.int z6, .int x2] [] (cd f A R wr) _
      refine pe_iload_n (j := 0) (by decide +kernel) rfl ?_
      refine pe_iload_n (j := 1) (by decide +kernel) rfl ?_
      refine pw_shr (by decide +kernel) (fun z7 => ?_)
      refine pe_iconstv (n := 1) (v := 1) (by decide +kernel) (by decide +kernel) ?_
      refine pz_and1 (by decide +kernel) (fun z8 hz8 => ?_)
      refine pz_if_eq (off := 7) (t := 12) (by decide +kernel) (by decide) rfl rfl (fun h9 => ?_) (fun h9 => ?_)
      · skip
        refine pe_iconstv (n := 0) (v := 0) (by decide +kernel) (by decide +kernel) ?_
        refine pe_iret (by decide +kernel) rfl rfl ⟨rfl, rfl, ?_⟩
        show pmE pg X pg_tyl pg_cl (d + 4) 149 57 [.ref 33, .int x1, .int x2, .int x3, .int z6, .int x5] [.int 0] (cd f A R wr) _
        refine pz_if_eq (off := 6) (t := 63) (by decide +kernel) (by decide) rfl kz_0 (fun h10 => ?_) (fun h10 => by omega)
        refine pz_iinc (j := 5) (n := 1) (by decide +kernel) rfl rfl (by decide +kernel) (by omega) (by omega) (fun z11 hz11 => ?_)
        show pmE pg X pg_tyl pg_cl (d + 4) 149 66 [.ref 33, .int x1, .int x2, .int x3, .int z6, .int z11] [] (cd f A R wr) _
        refine pe_goto (off := (-45)) (t := 21) (by decide +kernel) (by decide) rfl ?_
        exact ih z6 z11 (by omega) (by omega)
      · skip
        refine pe_iconstv (n := 1) (v := 1) (by decide +kernel) (by decide +kernel) ?_
        refine pe_goto (off := 4) (t := 13) (by decide +kernel) (by decide) rfl ?_
        refine pe_iret (by decide +kernel) rfl rfl ⟨rfl, rfl, ?_⟩
        show pmE pg X pg_tyl pg_cl (d + 4) 149 57 [.ref 33, .int x1, .int x2, .int x3, .int z6, .int x5] [.int 1] (cd f A R wr) _
        refine pz_if_eq (off := 6) (t := 63) (by decide +kernel) (by decide) rfl kz_1 (fun h12 => by omega) (fun h12 => ?_)
        refine pe_iload (j := 5) (by decide +kernel) rfl ?_
        exact pe_iret (by decide +kernel) rfl rfl (kr_v x5 (by omega))
set_option maxRecDepth 100000 in
set_option maxHeartbeats 8000000 in
theorem CM_149 {X : pm_X} {d : Nat} {wr : pm_W} {f : Nat → Int32} {A : Nat → List Int32} {R : Nat → Value} {x1 x2 x3 : Int32} {v : Nat} (hX : XO X) (hI : CI f A R) (hv : VV v) (hR0 : R 0 = .ref v) (gx1 : (0 ≤ x1.toInt ∧ x1.toInt ≤ 8)) (gx2 : (0 ≤ x2.toInt ∧ x2.toInt ≤ 8)) : pmE pg X pg_tyl pg_cl (d + 4) 149 0 (pm_ent (pm_max pg 149) [.ref 33, .int x1, .int x2, .int x3]) [] (cd f A R wr) (fun q => ∃ (r : Int32), q = (some (.int r), cd f A R wr, 0, 0) ∧ ((((-1) ≤ r.toInt ∧ r.toInt ≤ 8) ∧ True))) := by
  have bv := VV_b hv
  show pmE pg X pg_tyl pg_cl (d + 4) 149 0 [.ref 33, .int x1, .int x2, .int x3, pm_dead, pm_dead] [] (cd f A R wr) _
  refine pe_iconstv (n := 1) (v := 1) (by decide +kernel) (by decide +kernel) ?_
  refine pe_iload_n (j := 1) (by decide +kernel) rfl ?_
  refine pz_shl1 (by decide +kernel) rfl (by omega) (by omega) (fun z1 hz1 => ?_)
  refine pe_aload_n (j := 0) (by decide +kernel) rfl ?_
  refine pe_iload_n (j := 1) (by decide +kernel) rfl ?_
  refine pe_iload_n (j := 3) (by decide +kernel) rfl ?_
  refine pz_callV (j := 136) (mj := 144) (by decide +kernel) (cll_V (args := [.int x3, .int x1]) (n := 2) (by decide +kernel) rfl rfl cd_o33 (by decide +kernel) (Nat.le_of_ble_eq_true rfl) (Nat.le_of_ble_eq_true rfl)) (CM_144 hX hI hv (hR0) (by omega)) (fun q2a q2b q2c q2d hqq2 => ?_)
  obtain ⟨rq2, eq2, kq2⟩ := hqq2
  cases eq2
  refine ⟨rfl, rfl, ?_⟩
  show pmE pg X pg_tyl pg_cl (d + 4) 149 9 [.ref 33, .int x1, .int x2, .int x3, pm_dead, pm_dead] [.int rq2, .int z1] (cd f A R wr) _
  refine pe_iconstv (n := 1) (v := 1) (by decide +kernel) (by decide +kernel) ?_
  refine pe_iload_n (j := 2) (by decide +kernel) rfl ?_
  refine pz_shl1 (by decide +kernel) rfl (by omega) (by omega) (fun z3 hz3 => ?_)
  refine pe_iconstv (n := (-1)) (v := (-1)) (by decide +kernel) (by decide +kernel) ?_
  refine pw_xor (by decide +kernel) (fun z4 => ?_)
  refine pw_and (by decide +kernel) (fun z5 => ?_)
  refine pw_or (by decide +kernel) (fun z6 => ?_)
  refine pe_istore (j := 4) (ls' := [.ref 33, .int x1, .int x2, .int x3, .int z6, pm_dead]) (by decide +kernel) (Nat.le_of_ble_eq_true rfl) rfl ?_
  refine pe_iconstv (n := 2) (v := 2) (by decide +kernel) (by decide +kernel) ?_
  refine pe_istore (j := 5) (ls' := [.ref 33, .int x1, .int x2, .int x3, .int z6, .int 2]) (by decide +kernel) (Nat.le_of_ble_eq_true rfl) rfl ?_
  refine CL_149_21 hX hI hv (hR0) (by omega) (by omega) (fun y7 y8 gy8 => ?_) (fun r9 gr9 => ⟨r9, rfl, ⟨(by omega), trivial⟩⟩) 8 z6 2 (by decide +kernel) (by decide +kernel)
  refine pe_iconstv (n := (-1)) (v := (-1)) (by decide +kernel) (by decide +kernel) ?_
  exact pe_iret (by decide +kernel) rfl rfl ⟨(-1), rfl, ⟨(by decide +kernel), trivial⟩⟩
set_option maxRecDepth 100000 in
set_option maxHeartbeats 8000000 in
theorem CL_80_3 {X : pm_X} {d : Nat} {wr : pm_W} {Q : pm_R → Prop} {f : Nat → Int32} {A : Nat → List Int32} {R : Nat → Value} {x2 x3 : Int32} {v : Nat} (hX : XO X) (hI : CI f A R) (hv : VV v) (hR0 : R 0 = .ref v) (gx2 : (0 ≤ x2.toInt ∧ x2.toInt ≤ 6)) (k_77_0 : ∀ (y4 : Int32) (v5 : Value), (0 ≤ y4.toInt ∧ y4.toInt ≤ 6) → x2.toInt ≤ y4.toInt → (∀ j : Int, (0) ≤ j → j < (y4.toInt) → 0 ≤ ((A 41).getD j.toNat 0).toInt ∧ ((A 41).getD j.toNat 0).toInt ≤ 8) → pmE pg X pg_tyl pg_cl (d + 2) 80 77 [.ref 33, .ref 41, .int x2, .int x3, .int y4, v5] [] (cd f A R wr) Q) (kr_0 : Q (some (.int 0), cd f A R wr, 0, 0)) : ∀ (m : Nat) (x4 : Int32) (u5 : Value), (0 ≤ x4.toInt ∧ x4.toInt ≤ 6) → (∀ j : Int, (0) ≤ j → j < (x4.toInt) → 0 ≤ ((A 41).getD j.toNat 0).toInt ∧ ((A 41).getD j.toNat 0).toInt ≤ 8) → 6 - x4.toInt < (m : Int) → pmE pg X pg_tyl pg_cl (d + 2) 80 3 [.ref 33, .ref 41, .int x2, .int x3, .int x4, u5] [] (cd f A R wr) Q := by
  have bv := VV_b hv
  intro m
  induction m with
  | zero =>
    intro x4 u5 gx4 hv0 hm
    exfalso
    have l0 := zi_lo x4
    have u0 := zi_hi x4
    omega
  | succ m ih =>
    intro x4 u5 gx4 hv0 hm
    refine pe_iload (j := 4) (by decide +kernel) rfl ?_
    refine pe_iload_n (j := 2) (by decide +kernel) rfl ?_
    refine pz_icmp_ge (off := 71) (t := 77) (by decide +kernel) (by decide) rfl rfl rfl (fun h1 => ?_) (fun h1 => ?_)
    · skip
      have hq2 : (∀ j : Int, (0) ≤ j → j < (x4.toInt) → 0 ≤ ((A 41).getD j.toNat 0).toInt ∧ ((A 41).getD j.toNat 0).toInt ≤ 8) := by
        intro j h1 h2
        first
        | (exfalso; omega)
        | exact hv0 j (by omega) (by omega)
      exact k_77_0 x4 (u5) (by omega) (by omega) hq2
    · skip
      refine pe_aload_n (j := 1) (by decide +kernel) rfl ?_
      refine pe_iload (j := 4) (by decide +kernel) rfl ?_
      refine pe_iconstv (n := 1) (v := 1) (by decide +kernel) (by decide +kernel) ?_
      refine pz_add (by decide +kernel) rfl kz_1 (by omega) (by omega) (fun z3 hz3 => ?_)
      refine pe_iload_n (j := 2) (by decide +kernel) rfl ?_
      refine pz_icmp_ge (off := 10) (t := 25) (by decide +kernel) (by decide) rfl hz3 rfl (fun h4 => ?_) (fun h4 => ?_)
      · skip
        clear hz3
        refine pe_iconstv (n := 0) (v := 0) (by decide +kernel) (by decide +kernel) ?_
        refine pz_iald (by decide +kernel) cd_a41 (cl_41 hI) kz_0 (by omega) (by omega) (fun v5 ev5 => ?_)
        refine pe_istore (j := 5) (ls' := [.ref 33, .ref 41, .int x2, .int x3, .int x4, .int v5]) (by decide +kernel) (Nat.le_of_ble_eq_true rfl) rfl ?_
        refine pe_aload_n (j := 0) (by decide +kernel) rfl ?_
        refine pe_get (j := 12) (ci := 7) (n := 0) (by decide +kernel) (by decide +kernel) cd_o33 rfl ?_
        refine pe_topV (v := .ref v) (hR0) ?_
        refine pe_aload_n (j := 1) (by decide +kernel) rfl ?_
        refine pe_iload (j := 4) (by decide +kernel) rfl ?_
        refine pz_iald (by decide +kernel) cd_a41 (cl_41 hI) rfl (by omega) (by omega) (fun v6 ev6 => ?_)
        refine pi_V (j := 86) (mj := 61) (by decide +kernel) (cll_V (args := [.int v6]) (n := 1) (by decide +kernel) rfl rfl (cv_o hv) (by decide +kernel) (Nat.le_of_ble_eq_true rfl) (Nat.le_of_ble_eq_true rfl)) ?_
        show pmE pg X pg_tyl pg_cl (d + 1) 61 0 [.ref v, .int v6] [] (cd f A R wr) _
        refine pe_iload_n (j := 1) (by decide +kernel) rfl ?_
        have lw8 := zi_lo v6
        have uw8 := zi_hi v6
        refine pz_if_lt (off := 15) (t := 16) (by decide +kernel) (by decide) rfl rfl (fun h7 => ?_) (fun h7 => ?_)
        · skip
          refine pe_iconstv (n := 0) (v := 0) (by decide +kernel) (by decide +kernel) ?_
          refine pe_iret (by decide +kernel) rfl rfl ⟨rfl, rfl, ?_⟩
          show pmE pg X pg_tyl pg_cl (d + 2) 80 40 [.ref 33, .ref 41, .int x2, .int x3, .int x4, .int v5] [.int 0] (cd f A R wr) _
          refine pz_if_eq (off := 29) (t := 69) (by decide +kernel) (by decide) rfl kz_0 (fun h9 => ?_) (fun h9 => by omega)
          refine pe_iconstv (n := 0) (v := 0) (by decide +kernel) (by decide +kernel) ?_
          exact pe_iret (by decide +kernel) rfl rfl kr_0
        · skip
          refine pe_iload_n (j := 1) (by decide +kernel) rfl ?_
          refine pe_aload_n (j := 0) (by decide +kernel) rfl ?_
          refine pe_get (j := 9) (ci := 9) (n := 0) (by decide +kernel) (by decide +kernel) (cv_o hv) rfl ?_
          have hr_f_16v := cv_people hv hI
          refine pz_icmp_ge (off := 7) (t := 16) (by decide +kernel) (by decide) rfl rfl rfl (fun h10 => ?_) (fun h10 => ?_)
          · skip
            refine pe_iconstv (n := 0) (v := 0) (by decide +kernel) (by decide +kernel) ?_
            refine pe_iret (by decide +kernel) rfl rfl ⟨rfl, rfl, ?_⟩
            show pmE pg X pg_tyl pg_cl (d + 2) 80 40 [.ref 33, .ref 41, .int x2, .int x3, .int x4, .int v5] [.int 0] (cd f A R wr) _
            refine pz_if_eq (off := 29) (t := 69) (by decide +kernel) (by decide) rfl kz_0 (fun h11 => ?_) (fun h11 => by omega)
            refine pe_iconstv (n := 0) (v := 0) (by decide +kernel) (by decide +kernel) ?_
            exact pe_iret (by decide +kernel) rfl rfl kr_0
          · skip
            refine pe_iconstv (n := 1) (v := 1) (by decide +kernel) (by decide +kernel) ?_
            refine pe_goto (off := 4) (t := 17) (by decide +kernel) (by decide) rfl ?_
            refine pe_iret (by decide +kernel) rfl rfl ⟨rfl, rfl, ?_⟩
            show pmE pg X pg_tyl pg_cl (d + 2) 80 40 [.ref 33, .ref 41, .int x2, .int x3, .int x4, .int v5] [.int 1] (cd f A R wr) _
            refine pz_if_eq (off := 29) (t := 69) (by decide +kernel) (by decide) rfl kz_1 (fun h12 => by omega) (fun h12 => ?_)
            refine pe_aload_n (j := 0) (by decide +kernel) rfl ?_
            refine pe_get (j := 12) (ci := 7) (n := 0) (by decide +kernel) (by decide +kernel) cd_o33 rfl ?_
            refine pe_topV (v := .ref v) (hR0) ?_
            refine pe_iload (j := 5) (by decide +kernel) rfl ?_
            refine pi_V (j := 86) (mj := 61) (by decide +kernel) (cll_V (args := [.int v5]) (n := 1) (by decide +kernel) rfl rfl (cv_o hv) (by decide +kernel) (Nat.le_of_ble_eq_true rfl) (Nat.le_of_ble_eq_true rfl)) ?_
            show pmE pg X pg_tyl pg_cl (d + 1) 61 0 [.ref v, .int v5] [] (cd f A R wr) _
            refine pe_iload_n (j := 1) (by decide +kernel) rfl ?_
            have lw14 := zi_lo v5
            have uw14 := zi_hi v5
            refine pz_if_lt (off := 15) (t := 16) (by decide +kernel) (by decide) rfl rfl (fun h13 => ?_) (fun h13 => ?_)
            · skip
              refine pe_iconstv (n := 0) (v := 0) (by decide +kernel) (by decide +kernel) ?_
              refine pe_iret (by decide +kernel) rfl rfl ⟨rfl, rfl, ?_⟩
              show pmE pg X pg_tyl pg_cl (d + 2) 80 52 [.ref 33, .ref 41, .int x2, .int x3, .int x4, .int v5] [.int 0] (cd f A R wr) _
              refine pz_if_eq (off := 17) (t := 69) (by decide +kernel) (by decide) rfl kz_0 (fun h15 => ?_) (fun h15 => by omega)
              refine pe_iconstv (n := 0) (v := 0) (by decide +kernel) (by decide +kernel) ?_
              exact pe_iret (by decide +kernel) rfl rfl kr_0
            · skip
              refine pe_iload_n (j := 1) (by decide +kernel) rfl ?_
              refine pe_aload_n (j := 0) (by decide +kernel) rfl ?_
              refine pe_get (j := 9) (ci := 9) (n := 0) (by decide +kernel) (by decide +kernel) (cv_o hv) rfl ?_
              refine pz_icmp_ge (off := 7) (t := 16) (by decide +kernel) (by decide) rfl rfl rfl (fun h16 => ?_) (fun h16 => ?_)
              · skip
                refine pe_iconstv (n := 0) (v := 0) (by decide +kernel) (by decide +kernel) ?_
                refine pe_iret (by decide +kernel) rfl rfl ⟨rfl, rfl, ?_⟩
                show pmE pg X pg_tyl pg_cl (d + 2) 80 52 [.ref 33, .ref 41, .int x2, .int x3, .int x4, .int v5] [.int 0] (cd f A R wr) _
                refine pz_if_eq (off := 17) (t := 69) (by decide +kernel) (by decide) rfl kz_0 (fun h17 => ?_) (fun h17 => by omega)
                refine pe_iconstv (n := 0) (v := 0) (by decide +kernel) (by decide +kernel) ?_
                exact pe_iret (by decide +kernel) rfl rfl kr_0
              · skip
                refine pe_iconstv (n := 1) (v := 1) (by decide +kernel) (by decide +kernel) ?_
                refine pe_goto (off := 4) (t := 17) (by decide +kernel) (by decide) rfl ?_
                refine pe_iret (by decide +kernel) rfl rfl ⟨rfl, rfl, ?_⟩
                show pmE pg X pg_tyl pg_cl (d + 2) 80 52 [.ref 33, .ref 41, .int x2, .int x3, .int x4, .int v5] [.int 1] (cd f A R wr) _
                refine pz_if_eq (off := 17) (t := 69) (by decide +kernel) (by decide) rfl kz_1 (fun h18 => by omega) (fun h18 => ?_)
                refine pe_aload_n (j := 0) (by decide +kernel) rfl ?_
                refine pe_aload_n (j := 1) (by decide +kernel) rfl ?_
                refine pe_iload (j := 4) (by decide +kernel) rfl ?_
                refine pz_iald (by decide +kernel) cd_a41 (cl_41 hI) rfl (by omega) (by omega) (fun v19 ev19 => ?_)
                rw [ev19.trans ev6.symm]
                clear ev19 v19
                refine pe_iload (j := 5) (by decide +kernel) rfl ?_
                refine pz_callV (j := 89) (mj := 77) (by decide +kernel) (cll_V (args := [.int v5, .int v6]) (n := 2) (by decide +kernel) rfl rfl cd_o33 (by decide +kernel) (Nat.le_of_ble_eq_true rfl) (Nat.le_of_ble_eq_true rfl)) (CM_77 hX hI hv (hR0) (by omega) (by omega)) (fun q20a q20b q20c q20d hqq20 => ?_)
                obtain ⟨rq20, eq20, kq20⟩ := hqq20
                cases eq20
                refine ⟨rfl, rfl, ?_⟩
                show pmE pg X pg_tyl pg_cl (d + 2) 80 65 [.ref 33, .ref 41, .int x2, .int x3, .int x4, .int v5] [.int rq20] (cd f A R wr) _
                refine pe_iload_n (j := 3) (by decide +kernel) rfl ?_
                have lw22 := zi_lo rq20
                have uw22 := zi_hi rq20
                have lw23 := zi_lo x3
                have uw23 := zi_hi x3
                refine pz_icmp_ge (off := 5) (t := 71) (by decide +kernel) (by decide) rfl rfl rfl (fun h21 => ?_) (fun h21 => ?_)
                · skip
                  refine pz_iinc (j := 4) (n := 1) (by decide +kernel) rfl rfl (by decide +kernel) (by omega) (by omega) (fun z24 hz24 => ?_)
                  show pmE pg X pg_tyl pg_cl (d + 2) 80 74 [.ref 33, .ref 41, .int x2, .int x3, .int z24, .int v5] [] (cd f A R wr) _
                  refine pe_goto (off := (-71)) (t := 3) (by decide +kernel) (by decide) rfl ?_
                  have hq25 : (∀ j : Int, (0) ≤ j → j < (z24.toInt) → 0 ≤ ((A 41).getD j.toNat 0).toInt ∧ ((A 41).getD j.toNat 0).toInt ≤ 8) := by
                    intro j h1 h2
                    first
                    | (exfalso; omega)
                    | exact hv0 j (by omega) (by omega)
                    | (by_cases e : (0) ≤ j ∧ j < (x4.toInt)
                       · exact hv0 j e.1 e.2
                       · have e3 : j.toNat = (0).toNat := by omega
                         rw [e3, ← ev5]; omega)
                    | (by_cases e : (0) ≤ j ∧ j < (x4.toInt)
                       · exact hv0 j e.1 e.2
                       · have e3 : j.toNat = (x4.toInt).toNat := by omega
                         rw [e3, ← ev6]; omega)
                  exact ih z24 (.int v5) (by omega) hq25 (by omega)
                · skip
                  refine pe_iconstv (n := 0) (v := 0) (by decide +kernel) (by decide +kernel) ?_
                  exact pe_iret (by decide +kernel) rfl rfl kr_0
      · skip
        clear hz3
        refine pe_iload (j := 4) (by decide +kernel) rfl ?_
        refine pe_iconstv (n := 1) (v := 1) (by decide +kernel) (by decide +kernel) ?_
        refine pz_add (by decide +kernel) rfl kz_1 (by omega) (by omega) (fun z26 hz26 => ?_)
        refine pe_goto (off := 4) (t := 26) (by decide +kernel) (by decide) rfl ?_
        refine pz_iald (by decide +kernel) cd_a41 (cl_41 hI) hz26 (by omega) (by omega) (fun v27 ev27 => ?_)
        clear hz26
        refine pe_istore (j := 5) (ls' := [.ref 33, .ref 41, .int x2, .int x3, .int x4, .int v27]) (by decide +kernel) (Nat.le_of_ble_eq_true rfl) rfl ?_
        refine pe_aload_n (j := 0) (by decide +kernel) rfl ?_
        refine pe_get (j := 12) (ci := 7) (n := 0) (by decide +kernel) (by decide +kernel) cd_o33 rfl ?_
        refine pe_topV (v := .ref v) (hR0) ?_
        refine pe_aload_n (j := 1) (by decide +kernel) rfl ?_
        refine pe_iload (j := 4) (by decide +kernel) rfl ?_
        refine pz_iald (by decide +kernel) cd_a41 (cl_41 hI) rfl (by omega) (by omega) (fun v28 ev28 => ?_)
        refine pi_V (j := 86) (mj := 61) (by decide +kernel) (cll_V (args := [.int v28]) (n := 1) (by decide +kernel) rfl rfl (cv_o hv) (by decide +kernel) (Nat.le_of_ble_eq_true rfl) (Nat.le_of_ble_eq_true rfl)) ?_
        show pmE pg X pg_tyl pg_cl (d + 1) 61 0 [.ref v, .int v28] [] (cd f A R wr) _
        refine pe_iload_n (j := 1) (by decide +kernel) rfl ?_
        have lw30 := zi_lo v28
        have uw30 := zi_hi v28
        refine pz_if_lt (off := 15) (t := 16) (by decide +kernel) (by decide) rfl rfl (fun h29 => ?_) (fun h29 => ?_)
        · skip
          refine pe_iconstv (n := 0) (v := 0) (by decide +kernel) (by decide +kernel) ?_
          refine pe_iret (by decide +kernel) rfl rfl ⟨rfl, rfl, ?_⟩
          show pmE pg X pg_tyl pg_cl (d + 2) 80 40 [.ref 33, .ref 41, .int x2, .int x3, .int x4, .int v27] [.int 0] (cd f A R wr) _
          refine pz_if_eq (off := 29) (t := 69) (by decide +kernel) (by decide) rfl kz_0 (fun h31 => ?_) (fun h31 => by omega)
          refine pe_iconstv (n := 0) (v := 0) (by decide +kernel) (by decide +kernel) ?_
          exact pe_iret (by decide +kernel) rfl rfl kr_0
        · skip
          refine pe_iload_n (j := 1) (by decide +kernel) rfl ?_
          refine pe_aload_n (j := 0) (by decide +kernel) rfl ?_
          refine pe_get (j := 9) (ci := 9) (n := 0) (by decide +kernel) (by decide +kernel) (cv_o hv) rfl ?_
          have hr_f_16v := cv_people hv hI
          refine pz_icmp_ge (off := 7) (t := 16) (by decide +kernel) (by decide) rfl rfl rfl (fun h32 => ?_) (fun h32 => ?_)
          · skip
            refine pe_iconstv (n := 0) (v := 0) (by decide +kernel) (by decide +kernel) ?_
            refine pe_iret (by decide +kernel) rfl rfl ⟨rfl, rfl, ?_⟩
            show pmE pg X pg_tyl pg_cl (d + 2) 80 40 [.ref 33, .ref 41, .int x2, .int x3, .int x4, .int v27] [.int 0] (cd f A R wr) _
            refine pz_if_eq (off := 29) (t := 69) (by decide +kernel) (by decide) rfl kz_0 (fun h33 => ?_) (fun h33 => by omega)
            refine pe_iconstv (n := 0) (v := 0) (by decide +kernel) (by decide +kernel) ?_
            exact pe_iret (by decide +kernel) rfl rfl kr_0
          · skip
            refine pe_iconstv (n := 1) (v := 1) (by decide +kernel) (by decide +kernel) ?_
            refine pe_goto (off := 4) (t := 17) (by decide +kernel) (by decide) rfl ?_
            refine pe_iret (by decide +kernel) rfl rfl ⟨rfl, rfl, ?_⟩
            show pmE pg X pg_tyl pg_cl (d + 2) 80 40 [.ref 33, .ref 41, .int x2, .int x3, .int x4, .int v27] [.int 1] (cd f A R wr) _
            refine pz_if_eq (off := 29) (t := 69) (by decide +kernel) (by decide) rfl kz_1 (fun h34 => by omega) (fun h34 => ?_)
            refine pe_aload_n (j := 0) (by decide +kernel) rfl ?_
            refine pe_get (j := 12) (ci := 7) (n := 0) (by decide +kernel) (by decide +kernel) cd_o33 rfl ?_
            refine pe_topV (v := .ref v) (hR0) ?_
            refine pe_iload (j := 5) (by decide +kernel) rfl ?_
            refine pi_V (j := 86) (mj := 61) (by decide +kernel) (cll_V (args := [.int v27]) (n := 1) (by decide +kernel) rfl rfl (cv_o hv) (by decide +kernel) (Nat.le_of_ble_eq_true rfl) (Nat.le_of_ble_eq_true rfl)) ?_
            show pmE pg X pg_tyl pg_cl (d + 1) 61 0 [.ref v, .int v27] [] (cd f A R wr) _
            refine pe_iload_n (j := 1) (by decide +kernel) rfl ?_
            have lw36 := zi_lo v27
            have uw36 := zi_hi v27
            refine pz_if_lt (off := 15) (t := 16) (by decide +kernel) (by decide) rfl rfl (fun h35 => ?_) (fun h35 => ?_)
            · skip
              refine pe_iconstv (n := 0) (v := 0) (by decide +kernel) (by decide +kernel) ?_
              refine pe_iret (by decide +kernel) rfl rfl ⟨rfl, rfl, ?_⟩
              show pmE pg X pg_tyl pg_cl (d + 2) 80 52 [.ref 33, .ref 41, .int x2, .int x3, .int x4, .int v27] [.int 0] (cd f A R wr) _
              refine pz_if_eq (off := 17) (t := 69) (by decide +kernel) (by decide) rfl kz_0 (fun h37 => ?_) (fun h37 => by omega)
              refine pe_iconstv (n := 0) (v := 0) (by decide +kernel) (by decide +kernel) ?_
              exact pe_iret (by decide +kernel) rfl rfl kr_0
            · skip
              refine pe_iload_n (j := 1) (by decide +kernel) rfl ?_
              refine pe_aload_n (j := 0) (by decide +kernel) rfl ?_
              refine pe_get (j := 9) (ci := 9) (n := 0) (by decide +kernel) (by decide +kernel) (cv_o hv) rfl ?_
              refine pz_icmp_ge (off := 7) (t := 16) (by decide +kernel) (by decide) rfl rfl rfl (fun h38 => ?_) (fun h38 => ?_)
              · skip
                refine pe_iconstv (n := 0) (v := 0) (by decide +kernel) (by decide +kernel) ?_
                refine pe_iret (by decide +kernel) rfl rfl ⟨rfl, rfl, ?_⟩
                show pmE pg X pg_tyl pg_cl (d + 2) 80 52 [.ref 33, .ref 41, .int x2, .int x3, .int x4, .int v27] [.int 0] (cd f A R wr) _
                refine pz_if_eq (off := 17) (t := 69) (by decide +kernel) (by decide) rfl kz_0 (fun h39 => ?_) (fun h39 => by omega)
                refine pe_iconstv (n := 0) (v := 0) (by decide +kernel) (by decide +kernel) ?_
                exact pe_iret (by decide +kernel) rfl rfl kr_0
              · skip
                refine pe_iconstv (n := 1) (v := 1) (by decide +kernel) (by decide +kernel) ?_
                refine pe_goto (off := 4) (t := 17) (by decide +kernel) (by decide) rfl ?_
                refine pe_iret (by decide +kernel) rfl rfl ⟨rfl, rfl, ?_⟩
                show pmE pg X pg_tyl pg_cl (d + 2) 80 52 [.ref 33, .ref 41, .int x2, .int x3, .int x4, .int v27] [.int 1] (cd f A R wr) _
                refine pz_if_eq (off := 17) (t := 69) (by decide +kernel) (by decide) rfl kz_1 (fun h40 => by omega) (fun h40 => ?_)
                refine pe_aload_n (j := 0) (by decide +kernel) rfl ?_
                refine pe_aload_n (j := 1) (by decide +kernel) rfl ?_
                refine pe_iload (j := 4) (by decide +kernel) rfl ?_
                refine pz_iald (by decide +kernel) cd_a41 (cl_41 hI) rfl (by omega) (by omega) (fun v41 ev41 => ?_)
                rw [ev41.trans ev28.symm]
                clear ev41 v41
                refine pe_iload (j := 5) (by decide +kernel) rfl ?_
                refine pz_callV (j := 89) (mj := 77) (by decide +kernel) (cll_V (args := [.int v27, .int v28]) (n := 2) (by decide +kernel) rfl rfl cd_o33 (by decide +kernel) (Nat.le_of_ble_eq_true rfl) (Nat.le_of_ble_eq_true rfl)) (CM_77 hX hI hv (hR0) (by omega) (by omega)) (fun q42a q42b q42c q42d hqq42 => ?_)
                obtain ⟨rq42, eq42, kq42⟩ := hqq42
                cases eq42
                refine ⟨rfl, rfl, ?_⟩
                show pmE pg X pg_tyl pg_cl (d + 2) 80 65 [.ref 33, .ref 41, .int x2, .int x3, .int x4, .int v27] [.int rq42] (cd f A R wr) _
                refine pe_iload_n (j := 3) (by decide +kernel) rfl ?_
                have lw44 := zi_lo rq42
                have uw44 := zi_hi rq42
                have lw45 := zi_lo x3
                have uw45 := zi_hi x3
                refine pz_icmp_ge (off := 5) (t := 71) (by decide +kernel) (by decide) rfl rfl rfl (fun h43 => ?_) (fun h43 => ?_)
                · skip
                  refine pz_iinc (j := 4) (n := 1) (by decide +kernel) rfl rfl (by decide +kernel) (by omega) (by omega) (fun z46 hz46 => ?_)
                  show pmE pg X pg_tyl pg_cl (d + 2) 80 74 [.ref 33, .ref 41, .int x2, .int x3, .int z46, .int v27] [] (cd f A R wr) _
                  refine pe_goto (off := (-71)) (t := 3) (by decide +kernel) (by decide) rfl ?_
                  have hq47 : (∀ j : Int, (0) ≤ j → j < (z46.toInt) → 0 ≤ ((A 41).getD j.toNat 0).toInt ∧ ((A 41).getD j.toNat 0).toInt ≤ 8) := by
                    intro j h1 h2
                    first
                    | (exfalso; omega)
                    | exact hv0 j (by omega) (by omega)
                    | (by_cases e : (0) ≤ j ∧ j < (x4.toInt)
                       · exact hv0 j e.1 e.2
                       · have e3 : j.toNat = ((x4.toInt + 1)).toNat := by omega
                         rw [e3, ← ev27]; omega)
                    | (by_cases e : (0) ≤ j ∧ j < (x4.toInt)
                       · exact hv0 j e.1 e.2
                       · have e3 : j.toNat = (x4.toInt).toNat := by omega
                         rw [e3, ← ev28]; omega)
                  exact ih z46 (.int v27) (by omega) hq47 (by omega)
                · skip
                  refine pe_iconstv (n := 0) (v := 0) (by decide +kernel) (by decide +kernel) ?_
                  exact pe_iret (by decide +kernel) rfl rfl kr_0
set_option maxRecDepth 100000 in
set_option maxHeartbeats 8000000 in
theorem CM_80 {X : pm_X} {d : Nat} {wr : pm_W} {f : Nat → Int32} {A : Nat → List Int32} {R : Nat → Value} {x2 x3 : Int32} {v : Nat} (hX : XO X) (hI : CI f A R) (hv : VV v) (hR0 : R 0 = .ref v) (gx2 : (0 ≤ x2.toInt ∧ x2.toInt ≤ 6)) : pmE pg X pg_tyl pg_cl (d + 2) 80 0 (pm_ent (pm_max pg 80) [.ref 33, .ref 41, .int x2, .int x3]) [] (cd f A R wr) (fun q => ∃ (r : Int32), q = (some (.int r), cd f A R wr, 0, 0) ∧ ((r = 0 ∧ True) ∨ (r = 1 ∧ (∀ j : Int, (0) ≤ j → j < (x2.toInt) → 0 ≤ ((A 41).getD j.toNat 0).toInt ∧ ((A 41).getD j.toNat 0).toInt ≤ 8) ∧ True))) := by
  have bv := VV_b hv
  show pmE pg X pg_tyl pg_cl (d + 2) 80 0 [.ref 33, .ref 41, .int x2, .int x3, pm_dead, pm_dead] [] (cd f A R wr) _
  refine pe_iconstv (n := 0) (v := 0) (by decide +kernel) (by decide +kernel) ?_
  refine pe_istore (j := 4) (ls' := [.ref 33, .ref 41, .int x2, .int x3, .int 0, pm_dead]) (by decide +kernel) (Nat.le_of_ble_eq_true rfl) rfl ?_
  have hq5 : (∀ j : Int, (0) ≤ j → j < ((0 : Int32).toInt) → 0 ≤ ((A 41).getD j.toNat 0).toInt ∧ ((A 41).getD j.toNat 0).toInt ≤ 8) := by
    intro j h1 h2
    have hl_x4 := kz_0
    first
    | (exfalso; omega)
  refine CL_80_3 hX hI hv (hR0) (by omega) (fun y1 u2 gy1 hr3 hq4 => ?_) (⟨0, rfl, Or.inl ⟨rfl, trivial⟩⟩) 7 0 (pm_dead) (by decide +kernel) hq5 (by decide +kernel)
  refine pe_iconstv (n := 1) (v := 1) (by decide +kernel) (by decide +kernel) ?_
  have hqr0 : (∀ j : Int, (0) ≤ j → j < (x2.toInt) → 0 ≤ ((A 41).getD j.toNat 0).toInt ∧ ((A 41).getD j.toNat 0).toInt ≤ 8) := by
    intro j h1 h2
    first
    | (exfalso; omega)
    | exact hq4 j (by omega) (by omega)
  exact pe_iret (by decide +kernel) rfl rfl ⟨1, rfl, Or.inr (⟨rfl, hqr0, trivial⟩)⟩
set_option maxRecDepth 100000 in
set_option maxHeartbeats 8000000 in
theorem CL_80_1_3 {X : pm_X} {d : Nat} {wr : pm_W} {Q : pm_R → Prop} {f : Nat → Int32} {A : Nat → List Int32} {R : Nat → Value} {x2 x3 : Int32} {v : Nat} (hX : XO X) (hI : CI f A R) (hv : VV v) (hR0 : R 0 = .ref v) (gx2 : (0 ≤ x2.toInt ∧ x2.toInt ≤ 6)) (k_77_0 : ∀ (y4 : Int32) (v5 : Value), (0 ≤ y4.toInt ∧ y4.toInt ≤ 6) → x2.toInt ≤ y4.toInt → (∀ j : Int, (0) ≤ j → j < (y4.toInt) → 0 ≤ ((A 86).getD j.toNat 0).toInt ∧ ((A 86).getD j.toNat 0).toInt ≤ 8) → pmE pg X pg_tyl pg_cl (d + 2) 80 77 [.ref 33, .ref 86, .int x2, .int x3, .int y4, v5] [] (cd f A R wr) Q) (kr_0 : Q (some (.int 0), cd f A R wr, 0, 0)) : ∀ (m : Nat) (x4 : Int32) (u5 : Value), (0 ≤ x4.toInt ∧ x4.toInt ≤ 6) → (∀ j : Int, (0) ≤ j → j < (x4.toInt) → 0 ≤ ((A 86).getD j.toNat 0).toInt ∧ ((A 86).getD j.toNat 0).toInt ≤ 8) → 6 - x4.toInt < (m : Int) → pmE pg X pg_tyl pg_cl (d + 2) 80 3 [.ref 33, .ref 86, .int x2, .int x3, .int x4, u5] [] (cd f A R wr) Q := by
  have bv := VV_b hv
  intro m
  induction m with
  | zero =>
    intro x4 u5 gx4 hv0 hm
    exfalso
    have l0 := zi_lo x4
    have u0 := zi_hi x4
    omega
  | succ m ih =>
    intro x4 u5 gx4 hv0 hm
    refine pe_iload (j := 4) (by decide +kernel) rfl ?_
    refine pe_iload_n (j := 2) (by decide +kernel) rfl ?_
    refine pz_icmp_ge (off := 71) (t := 77) (by decide +kernel) (by decide) rfl rfl rfl (fun h1 => ?_) (fun h1 => ?_)
    · skip
      have hq2 : (∀ j : Int, (0) ≤ j → j < (x4.toInt) → 0 ≤ ((A 86).getD j.toNat 0).toInt ∧ ((A 86).getD j.toNat 0).toInt ≤ 8) := by
        intro j h1 h2
        first
        | (exfalso; omega)
        | exact hv0 j (by omega) (by omega)
      exact k_77_0 x4 (u5) (by omega) (by omega) hq2
    · skip
      refine pe_aload_n (j := 1) (by decide +kernel) rfl ?_
      refine pe_iload (j := 4) (by decide +kernel) rfl ?_
      refine pe_iconstv (n := 1) (v := 1) (by decide +kernel) (by decide +kernel) ?_
      refine pz_add (by decide +kernel) rfl kz_1 (by omega) (by omega) (fun z3 hz3 => ?_)
      refine pe_iload_n (j := 2) (by decide +kernel) rfl ?_
      refine pz_icmp_ge (off := 10) (t := 25) (by decide +kernel) (by decide) rfl hz3 rfl (fun h4 => ?_) (fun h4 => ?_)
      · skip
        clear hz3
        refine pe_iconstv (n := 0) (v := 0) (by decide +kernel) (by decide +kernel) ?_
        refine pz_iald (by decide +kernel) cd_a86 (cl_86 hI) kz_0 (by omega) (by omega) (fun v5 ev5 => ?_)
        refine pe_istore (j := 5) (ls' := [.ref 33, .ref 86, .int x2, .int x3, .int x4, .int v5]) (by decide +kernel) (Nat.le_of_ble_eq_true rfl) rfl ?_
        refine pe_aload_n (j := 0) (by decide +kernel) rfl ?_
        refine pe_get (j := 12) (ci := 7) (n := 0) (by decide +kernel) (by decide +kernel) cd_o33 rfl ?_
        refine pe_topV (v := .ref v) (hR0) ?_
        refine pe_aload_n (j := 1) (by decide +kernel) rfl ?_
        refine pe_iload (j := 4) (by decide +kernel) rfl ?_
        refine pz_iald (by decide +kernel) cd_a86 (cl_86 hI) rfl (by omega) (by omega) (fun v6 ev6 => ?_)
        refine pi_V (j := 86) (mj := 61) (by decide +kernel) (cll_V (args := [.int v6]) (n := 1) (by decide +kernel) rfl rfl (cv_o hv) (by decide +kernel) (Nat.le_of_ble_eq_true rfl) (Nat.le_of_ble_eq_true rfl)) ?_
        show pmE pg X pg_tyl pg_cl (d + 1) 61 0 [.ref v, .int v6] [] (cd f A R wr) _
        refine pe_iload_n (j := 1) (by decide +kernel) rfl ?_
        have lw8 := zi_lo v6
        have uw8 := zi_hi v6
        refine pz_if_lt (off := 15) (t := 16) (by decide +kernel) (by decide) rfl rfl (fun h7 => ?_) (fun h7 => ?_)
        · skip
          refine pe_iconstv (n := 0) (v := 0) (by decide +kernel) (by decide +kernel) ?_
          refine pe_iret (by decide +kernel) rfl rfl ⟨rfl, rfl, ?_⟩
          show pmE pg X pg_tyl pg_cl (d + 2) 80 40 [.ref 33, .ref 86, .int x2, .int x3, .int x4, .int v5] [.int 0] (cd f A R wr) _
          refine pz_if_eq (off := 29) (t := 69) (by decide +kernel) (by decide) rfl kz_0 (fun h9 => ?_) (fun h9 => by omega)
          refine pe_iconstv (n := 0) (v := 0) (by decide +kernel) (by decide +kernel) ?_
          exact pe_iret (by decide +kernel) rfl rfl kr_0
        · skip
          refine pe_iload_n (j := 1) (by decide +kernel) rfl ?_
          refine pe_aload_n (j := 0) (by decide +kernel) rfl ?_
          refine pe_get (j := 9) (ci := 9) (n := 0) (by decide +kernel) (by decide +kernel) (cv_o hv) rfl ?_
          have hr_f_16v := cv_people hv hI
          refine pz_icmp_ge (off := 7) (t := 16) (by decide +kernel) (by decide) rfl rfl rfl (fun h10 => ?_) (fun h10 => ?_)
          · skip
            refine pe_iconstv (n := 0) (v := 0) (by decide +kernel) (by decide +kernel) ?_
            refine pe_iret (by decide +kernel) rfl rfl ⟨rfl, rfl, ?_⟩
            show pmE pg X pg_tyl pg_cl (d + 2) 80 40 [.ref 33, .ref 86, .int x2, .int x3, .int x4, .int v5] [.int 0] (cd f A R wr) _
            refine pz_if_eq (off := 29) (t := 69) (by decide +kernel) (by decide) rfl kz_0 (fun h11 => ?_) (fun h11 => by omega)
            refine pe_iconstv (n := 0) (v := 0) (by decide +kernel) (by decide +kernel) ?_
            exact pe_iret (by decide +kernel) rfl rfl kr_0
          · skip
            refine pe_iconstv (n := 1) (v := 1) (by decide +kernel) (by decide +kernel) ?_
            refine pe_goto (off := 4) (t := 17) (by decide +kernel) (by decide) rfl ?_
            refine pe_iret (by decide +kernel) rfl rfl ⟨rfl, rfl, ?_⟩
            show pmE pg X pg_tyl pg_cl (d + 2) 80 40 [.ref 33, .ref 86, .int x2, .int x3, .int x4, .int v5] [.int 1] (cd f A R wr) _
            refine pz_if_eq (off := 29) (t := 69) (by decide +kernel) (by decide) rfl kz_1 (fun h12 => by omega) (fun h12 => ?_)
            refine pe_aload_n (j := 0) (by decide +kernel) rfl ?_
            refine pe_get (j := 12) (ci := 7) (n := 0) (by decide +kernel) (by decide +kernel) cd_o33 rfl ?_
            refine pe_topV (v := .ref v) (hR0) ?_
            refine pe_iload (j := 5) (by decide +kernel) rfl ?_
            refine pi_V (j := 86) (mj := 61) (by decide +kernel) (cll_V (args := [.int v5]) (n := 1) (by decide +kernel) rfl rfl (cv_o hv) (by decide +kernel) (Nat.le_of_ble_eq_true rfl) (Nat.le_of_ble_eq_true rfl)) ?_
            show pmE pg X pg_tyl pg_cl (d + 1) 61 0 [.ref v, .int v5] [] (cd f A R wr) _
            refine pe_iload_n (j := 1) (by decide +kernel) rfl ?_
            have lw14 := zi_lo v5
            have uw14 := zi_hi v5
            refine pz_if_lt (off := 15) (t := 16) (by decide +kernel) (by decide) rfl rfl (fun h13 => ?_) (fun h13 => ?_)
            · skip
              refine pe_iconstv (n := 0) (v := 0) (by decide +kernel) (by decide +kernel) ?_
              refine pe_iret (by decide +kernel) rfl rfl ⟨rfl, rfl, ?_⟩
              show pmE pg X pg_tyl pg_cl (d + 2) 80 52 [.ref 33, .ref 86, .int x2, .int x3, .int x4, .int v5] [.int 0] (cd f A R wr) _
              refine pz_if_eq (off := 17) (t := 69) (by decide +kernel) (by decide) rfl kz_0 (fun h15 => ?_) (fun h15 => by omega)
              refine pe_iconstv (n := 0) (v := 0) (by decide +kernel) (by decide +kernel) ?_
              exact pe_iret (by decide +kernel) rfl rfl kr_0
            · skip
              refine pe_iload_n (j := 1) (by decide +kernel) rfl ?_
              refine pe_aload_n (j := 0) (by decide +kernel) rfl ?_
              refine pe_get (j := 9) (ci := 9) (n := 0) (by decide +kernel) (by decide +kernel) (cv_o hv) rfl ?_
              refine pz_icmp_ge (off := 7) (t := 16) (by decide +kernel) (by decide) rfl rfl rfl (fun h16 => ?_) (fun h16 => ?_)
              · skip
                refine pe_iconstv (n := 0) (v := 0) (by decide +kernel) (by decide +kernel) ?_
                refine pe_iret (by decide +kernel) rfl rfl ⟨rfl, rfl, ?_⟩
                show pmE pg X pg_tyl pg_cl (d + 2) 80 52 [.ref 33, .ref 86, .int x2, .int x3, .int x4, .int v5] [.int 0] (cd f A R wr) _
                refine pz_if_eq (off := 17) (t := 69) (by decide +kernel) (by decide) rfl kz_0 (fun h17 => ?_) (fun h17 => by omega)
                refine pe_iconstv (n := 0) (v := 0) (by decide +kernel) (by decide +kernel) ?_
                exact pe_iret (by decide +kernel) rfl rfl kr_0
              · skip
                refine pe_iconstv (n := 1) (v := 1) (by decide +kernel) (by decide +kernel) ?_
                refine pe_goto (off := 4) (t := 17) (by decide +kernel) (by decide) rfl ?_
                refine pe_iret (by decide +kernel) rfl rfl ⟨rfl, rfl, ?_⟩
                show pmE pg X pg_tyl pg_cl (d + 2) 80 52 [.ref 33, .ref 86, .int x2, .int x3, .int x4, .int v5] [.int 1] (cd f A R wr) _
                refine pz_if_eq (off := 17) (t := 69) (by decide +kernel) (by decide) rfl kz_1 (fun h18 => by omega) (fun h18 => ?_)
                refine pe_aload_n (j := 0) (by decide +kernel) rfl ?_
                refine pe_aload_n (j := 1) (by decide +kernel) rfl ?_
                refine pe_iload (j := 4) (by decide +kernel) rfl ?_
                refine pz_iald (by decide +kernel) cd_a86 (cl_86 hI) rfl (by omega) (by omega) (fun v19 ev19 => ?_)
                rw [ev19.trans ev6.symm]
                clear ev19 v19
                refine pe_iload (j := 5) (by decide +kernel) rfl ?_
                refine pz_callV (j := 89) (mj := 77) (by decide +kernel) (cll_V (args := [.int v5, .int v6]) (n := 2) (by decide +kernel) rfl rfl cd_o33 (by decide +kernel) (Nat.le_of_ble_eq_true rfl) (Nat.le_of_ble_eq_true rfl)) (CM_77 hX hI hv (hR0) (by omega) (by omega)) (fun q20a q20b q20c q20d hqq20 => ?_)
                obtain ⟨rq20, eq20, kq20⟩ := hqq20
                cases eq20
                refine ⟨rfl, rfl, ?_⟩
                show pmE pg X pg_tyl pg_cl (d + 2) 80 65 [.ref 33, .ref 86, .int x2, .int x3, .int x4, .int v5] [.int rq20] (cd f A R wr) _
                refine pe_iload_n (j := 3) (by decide +kernel) rfl ?_
                have lw22 := zi_lo rq20
                have uw22 := zi_hi rq20
                have lw23 := zi_lo x3
                have uw23 := zi_hi x3
                refine pz_icmp_ge (off := 5) (t := 71) (by decide +kernel) (by decide) rfl rfl rfl (fun h21 => ?_) (fun h21 => ?_)
                · skip
                  refine pz_iinc (j := 4) (n := 1) (by decide +kernel) rfl rfl (by decide +kernel) (by omega) (by omega) (fun z24 hz24 => ?_)
                  show pmE pg X pg_tyl pg_cl (d + 2) 80 74 [.ref 33, .ref 86, .int x2, .int x3, .int z24, .int v5] [] (cd f A R wr) _
                  refine pe_goto (off := (-71)) (t := 3) (by decide +kernel) (by decide) rfl ?_
                  have hq25 : (∀ j : Int, (0) ≤ j → j < (z24.toInt) → 0 ≤ ((A 86).getD j.toNat 0).toInt ∧ ((A 86).getD j.toNat 0).toInt ≤ 8) := by
                    intro j h1 h2
                    first
                    | (exfalso; omega)
                    | exact hv0 j (by omega) (by omega)
                    | (by_cases e : (0) ≤ j ∧ j < (x4.toInt)
                       · exact hv0 j e.1 e.2
                       · have e3 : j.toNat = (0).toNat := by omega
                         rw [e3, ← ev5]; omega)
                    | (by_cases e : (0) ≤ j ∧ j < (x4.toInt)
                       · exact hv0 j e.1 e.2
                       · have e3 : j.toNat = (x4.toInt).toNat := by omega
                         rw [e3, ← ev6]; omega)
                  exact ih z24 (.int v5) (by omega) hq25 (by omega)
                · skip
                  refine pe_iconstv (n := 0) (v := 0) (by decide +kernel) (by decide +kernel) ?_
                  exact pe_iret (by decide +kernel) rfl rfl kr_0
      · skip
        clear hz3
        refine pe_iload (j := 4) (by decide +kernel) rfl ?_
        refine pe_iconstv (n := 1) (v := 1) (by decide +kernel) (by decide +kernel) ?_
        refine pz_add (by decide +kernel) rfl kz_1 (by omega) (by omega) (fun z26 hz26 => ?_)
        refine pe_goto (off := 4) (t := 26) (by decide +kernel) (by decide) rfl ?_
        refine pz_iald (by decide +kernel) cd_a86 (cl_86 hI) hz26 (by omega) (by omega) (fun v27 ev27 => ?_)
        clear hz26
        refine pe_istore (j := 5) (ls' := [.ref 33, .ref 86, .int x2, .int x3, .int x4, .int v27]) (by decide +kernel) (Nat.le_of_ble_eq_true rfl) rfl ?_
        refine pe_aload_n (j := 0) (by decide +kernel) rfl ?_
        refine pe_get (j := 12) (ci := 7) (n := 0) (by decide +kernel) (by decide +kernel) cd_o33 rfl ?_
        refine pe_topV (v := .ref v) (hR0) ?_
        refine pe_aload_n (j := 1) (by decide +kernel) rfl ?_
        refine pe_iload (j := 4) (by decide +kernel) rfl ?_
        refine pz_iald (by decide +kernel) cd_a86 (cl_86 hI) rfl (by omega) (by omega) (fun v28 ev28 => ?_)
        refine pi_V (j := 86) (mj := 61) (by decide +kernel) (cll_V (args := [.int v28]) (n := 1) (by decide +kernel) rfl rfl (cv_o hv) (by decide +kernel) (Nat.le_of_ble_eq_true rfl) (Nat.le_of_ble_eq_true rfl)) ?_
        show pmE pg X pg_tyl pg_cl (d + 1) 61 0 [.ref v, .int v28] [] (cd f A R wr) _
        refine pe_iload_n (j := 1) (by decide +kernel) rfl ?_
        have lw30 := zi_lo v28
        have uw30 := zi_hi v28
        refine pz_if_lt (off := 15) (t := 16) (by decide +kernel) (by decide) rfl rfl (fun h29 => ?_) (fun h29 => ?_)
        · skip
          refine pe_iconstv (n := 0) (v := 0) (by decide +kernel) (by decide +kernel) ?_
          refine pe_iret (by decide +kernel) rfl rfl ⟨rfl, rfl, ?_⟩
          show pmE pg X pg_tyl pg_cl (d + 2) 80 40 [.ref 33, .ref 86, .int x2, .int x3, .int x4, .int v27] [.int 0] (cd f A R wr) _
          refine pz_if_eq (off := 29) (t := 69) (by decide +kernel) (by decide) rfl kz_0 (fun h31 => ?_) (fun h31 => by omega)
          refine pe_iconstv (n := 0) (v := 0) (by decide +kernel) (by decide +kernel) ?_
          exact pe_iret (by decide +kernel) rfl rfl kr_0
        · skip
          refine pe_iload_n (j := 1) (by decide +kernel) rfl ?_
          refine pe_aload_n (j := 0) (by decide +kernel) rfl ?_
          refine pe_get (j := 9) (ci := 9) (n := 0) (by decide +kernel) (by decide +kernel) (cv_o hv) rfl ?_
          have hr_f_16v := cv_people hv hI
          refine pz_icmp_ge (off := 7) (t := 16) (by decide +kernel) (by decide) rfl rfl rfl (fun h32 => ?_) (fun h32 => ?_)
          · skip
            refine pe_iconstv (n := 0) (v := 0) (by decide +kernel) (by decide +kernel) ?_
            refine pe_iret (by decide +kernel) rfl rfl ⟨rfl, rfl, ?_⟩
            show pmE pg X pg_tyl pg_cl (d + 2) 80 40 [.ref 33, .ref 86, .int x2, .int x3, .int x4, .int v27] [.int 0] (cd f A R wr) _
            refine pz_if_eq (off := 29) (t := 69) (by decide +kernel) (by decide) rfl kz_0 (fun h33 => ?_) (fun h33 => by omega)
            refine pe_iconstv (n := 0) (v := 0) (by decide +kernel) (by decide +kernel) ?_
            exact pe_iret (by decide +kernel) rfl rfl kr_0
          · skip
            refine pe_iconstv (n := 1) (v := 1) (by decide +kernel) (by decide +kernel) ?_
            refine pe_goto (off := 4) (t := 17) (by decide +kernel) (by decide) rfl ?_
            refine pe_iret (by decide +kernel) rfl rfl ⟨rfl, rfl, ?_⟩
            show pmE pg X pg_tyl pg_cl (d + 2) 80 40 [.ref 33, .ref 86, .int x2, .int x3, .int x4, .int v27] [.int 1] (cd f A R wr) _
            refine pz_if_eq (off := 29) (t := 69) (by decide +kernel) (by decide) rfl kz_1 (fun h34 => by omega) (fun h34 => ?_)
            refine pe_aload_n (j := 0) (by decide +kernel) rfl ?_
            refine pe_get (j := 12) (ci := 7) (n := 0) (by decide +kernel) (by decide +kernel) cd_o33 rfl ?_
            refine pe_topV (v := .ref v) (hR0) ?_
            refine pe_iload (j := 5) (by decide +kernel) rfl ?_
            refine pi_V (j := 86) (mj := 61) (by decide +kernel) (cll_V (args := [.int v27]) (n := 1) (by decide +kernel) rfl rfl (cv_o hv) (by decide +kernel) (Nat.le_of_ble_eq_true rfl) (Nat.le_of_ble_eq_true rfl)) ?_
            show pmE pg X pg_tyl pg_cl (d + 1) 61 0 [.ref v, .int v27] [] (cd f A R wr) _
            refine pe_iload_n (j := 1) (by decide +kernel) rfl ?_
            have lw36 := zi_lo v27
            have uw36 := zi_hi v27
            refine pz_if_lt (off := 15) (t := 16) (by decide +kernel) (by decide) rfl rfl (fun h35 => ?_) (fun h35 => ?_)
            · skip
              refine pe_iconstv (n := 0) (v := 0) (by decide +kernel) (by decide +kernel) ?_
              refine pe_iret (by decide +kernel) rfl rfl ⟨rfl, rfl, ?_⟩
              show pmE pg X pg_tyl pg_cl (d + 2) 80 52 [.ref 33, .ref 86, .int x2, .int x3, .int x4, .int v27] [.int 0] (cd f A R wr) _
              refine pz_if_eq (off := 17) (t := 69) (by decide +kernel) (by decide) rfl kz_0 (fun h37 => ?_) (fun h37 => by omega)
              refine pe_iconstv (n := 0) (v := 0) (by decide +kernel) (by decide +kernel) ?_
              exact pe_iret (by decide +kernel) rfl rfl kr_0
            · skip
              refine pe_iload_n (j := 1) (by decide +kernel) rfl ?_
              refine pe_aload_n (j := 0) (by decide +kernel) rfl ?_
              refine pe_get (j := 9) (ci := 9) (n := 0) (by decide +kernel) (by decide +kernel) (cv_o hv) rfl ?_
              refine pz_icmp_ge (off := 7) (t := 16) (by decide +kernel) (by decide) rfl rfl rfl (fun h38 => ?_) (fun h38 => ?_)
              · skip
                refine pe_iconstv (n := 0) (v := 0) (by decide +kernel) (by decide +kernel) ?_
                refine pe_iret (by decide +kernel) rfl rfl ⟨rfl, rfl, ?_⟩
                show pmE pg X pg_tyl pg_cl (d + 2) 80 52 [.ref 33, .ref 86, .int x2, .int x3, .int x4, .int v27] [.int 0] (cd f A R wr) _
                refine pz_if_eq (off := 17) (t := 69) (by decide +kernel) (by decide) rfl kz_0 (fun h39 => ?_) (fun h39 => by omega)
                refine pe_iconstv (n := 0) (v := 0) (by decide +kernel) (by decide +kernel) ?_
                exact pe_iret (by decide +kernel) rfl rfl kr_0
              · skip
                refine pe_iconstv (n := 1) (v := 1) (by decide +kernel) (by decide +kernel) ?_
                refine pe_goto (off := 4) (t := 17) (by decide +kernel) (by decide) rfl ?_
                refine pe_iret (by decide +kernel) rfl rfl ⟨rfl, rfl, ?_⟩
                show pmE pg X pg_tyl pg_cl (d + 2) 80 52 [.ref 33, .ref 86, .int x2, .int x3, .int x4, .int v27] [.int 1] (cd f A R wr) _
                refine pz_if_eq (off := 17) (t := 69) (by decide +kernel) (by decide) rfl kz_1 (fun h40 => by omega) (fun h40 => ?_)
                refine pe_aload_n (j := 0) (by decide +kernel) rfl ?_
                refine pe_aload_n (j := 1) (by decide +kernel) rfl ?_
                refine pe_iload (j := 4) (by decide +kernel) rfl ?_
                refine pz_iald (by decide +kernel) cd_a86 (cl_86 hI) rfl (by omega) (by omega) (fun v41 ev41 => ?_)
                rw [ev41.trans ev28.symm]
                clear ev41 v41
                refine pe_iload (j := 5) (by decide +kernel) rfl ?_
                refine pz_callV (j := 89) (mj := 77) (by decide +kernel) (cll_V (args := [.int v27, .int v28]) (n := 2) (by decide +kernel) rfl rfl cd_o33 (by decide +kernel) (Nat.le_of_ble_eq_true rfl) (Nat.le_of_ble_eq_true rfl)) (CM_77 hX hI hv (hR0) (by omega) (by omega)) (fun q42a q42b q42c q42d hqq42 => ?_)
                obtain ⟨rq42, eq42, kq42⟩ := hqq42
                cases eq42
                refine ⟨rfl, rfl, ?_⟩
                show pmE pg X pg_tyl pg_cl (d + 2) 80 65 [.ref 33, .ref 86, .int x2, .int x3, .int x4, .int v27] [.int rq42] (cd f A R wr) _
                refine pe_iload_n (j := 3) (by decide +kernel) rfl ?_
                have lw44 := zi_lo rq42
                have uw44 := zi_hi rq42
                have lw45 := zi_lo x3
                have uw45 := zi_hi x3
                refine pz_icmp_ge (off := 5) (t := 71) (by decide +kernel) (by decide) rfl rfl rfl (fun h43 => ?_) (fun h43 => ?_)
                · skip
                  refine pz_iinc (j := 4) (n := 1) (by decide +kernel) rfl rfl (by decide +kernel) (by omega) (by omega) (fun z46 hz46 => ?_)
                  show pmE pg X pg_tyl pg_cl (d + 2) 80 74 [.ref 33, .ref 86, .int x2, .int x3, .int z46, .int v27] [] (cd f A R wr) _
                  refine pe_goto (off := (-71)) (t := 3) (by decide +kernel) (by decide) rfl ?_
                  have hq47 : (∀ j : Int, (0) ≤ j → j < (z46.toInt) → 0 ≤ ((A 86).getD j.toNat 0).toInt ∧ ((A 86).getD j.toNat 0).toInt ≤ 8) := by
                    intro j h1 h2
                    first
                    | (exfalso; omega)
                    | exact hv0 j (by omega) (by omega)
                    | (by_cases e : (0) ≤ j ∧ j < (x4.toInt)
                       · exact hv0 j e.1 e.2
                       · have e3 : j.toNat = ((x4.toInt + 1)).toNat := by omega
                         rw [e3, ← ev27]; omega)
                    | (by_cases e : (0) ≤ j ∧ j < (x4.toInt)
                       · exact hv0 j e.1 e.2
                       · have e3 : j.toNat = (x4.toInt).toNat := by omega
                         rw [e3, ← ev28]; omega)
                  exact ih z46 (.int v27) (by omega) hq47 (by omega)
                · skip
                  refine pe_iconstv (n := 0) (v := 0) (by decide +kernel) (by decide +kernel) ?_
                  exact pe_iret (by decide +kernel) rfl rfl kr_0
set_option maxRecDepth 100000 in
set_option maxHeartbeats 8000000 in
theorem CM_80_1 {X : pm_X} {d : Nat} {wr : pm_W} {f : Nat → Int32} {A : Nat → List Int32} {R : Nat → Value} {x2 x3 : Int32} {v : Nat} (hX : XO X) (hI : CI f A R) (hv : VV v) (hR0 : R 0 = .ref v) (gx2 : (0 ≤ x2.toInt ∧ x2.toInt ≤ 6)) : pmE pg X pg_tyl pg_cl (d + 2) 80 0 (pm_ent (pm_max pg 80) [.ref 33, .ref 86, .int x2, .int x3]) [] (cd f A R wr) (fun q => ∃ (r : Int32), q = (some (.int r), cd f A R wr, 0, 0) ∧ ((r = 0 ∧ True) ∨ (r = 1 ∧ (∀ j : Int, (0) ≤ j → j < (x2.toInt) → 0 ≤ ((A 86).getD j.toNat 0).toInt ∧ ((A 86).getD j.toNat 0).toInt ≤ 8) ∧ True))) := by
  have bv := VV_b hv
  show pmE pg X pg_tyl pg_cl (d + 2) 80 0 [.ref 33, .ref 86, .int x2, .int x3, pm_dead, pm_dead] [] (cd f A R wr) _
  refine pe_iconstv (n := 0) (v := 0) (by decide +kernel) (by decide +kernel) ?_
  refine pe_istore (j := 4) (ls' := [.ref 33, .ref 86, .int x2, .int x3, .int 0, pm_dead]) (by decide +kernel) (Nat.le_of_ble_eq_true rfl) rfl ?_
  have hq5 : (∀ j : Int, (0) ≤ j → j < ((0 : Int32).toInt) → 0 ≤ ((A 86).getD j.toNat 0).toInt ∧ ((A 86).getD j.toNat 0).toInt ≤ 8) := by
    intro j h1 h2
    have hl_x4 := kz_0
    first
    | (exfalso; omega)
  refine CL_80_1_3 hX hI hv (hR0) (by omega) (fun y1 u2 gy1 hr3 hq4 => ?_) (⟨0, rfl, Or.inl ⟨rfl, trivial⟩⟩) 7 0 (pm_dead) (by decide +kernel) hq5 (by decide +kernel)
  refine pe_iconstv (n := 1) (v := 1) (by decide +kernel) (by decide +kernel) ?_
  have hqr0 : (∀ j : Int, (0) ≤ j → j < (x2.toInt) → 0 ≤ ((A 86).getD j.toNat 0).toInt ∧ ((A 86).getD j.toNat 0).toInt ≤ 8) := by
    intro j h1 h2
    first
    | (exfalso; omega)
    | exact hq4 j (by omega) (by omega)
  exact pe_iret (by decide +kernel) rfl rfl ⟨1, rfl, Or.inr (⟨rfl, hqr0, trivial⟩)⟩
