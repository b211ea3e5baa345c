set_option maxRecDepth 100000 in
set_option maxHeartbeats 8000000 in
theorem CL_152_4_61 {X : pm_X} {d : Nat} {wr : pm_W} {Q : pm_R → Prop} {f : Nat → Int32} {A0 : Nat → List Int32} {R : Nat → Value} {x2 x3 x4 : Int32} {v : Nat} (hX : XO X) (hv : VV v) (hR0 : R 0 = .ref v) (hR2 : R 2 = .ref 33) (gx3 : (3 ≤ x3.toInt)) (gx4 : (0 ≤ x4.toInt ∧ x4.toInt ≤ 8)) (k_136_0 : ∀ (A' : Nat → List Int32) (y5 : Int32) (y6 : Int32), CI f A' R → (∀ k : Nat, k ≠ 66 → A' k = A0 k) → (0 ≤ y6.toInt ∧ y6.toInt ≤ 9) → pmE pg X pg_tyl pg_cl (d + 6) 152 136 [.ref 55, .int 2, .int x2, .int x3, .int x4, .int y5, .int y6] [] (cd f A' R wr) Q) : ∀ (m : Nat) (A : Nat → List Int32) (x5 : Int32) (x6 : Int32), CI f A R → (∀ k : Nat, k ≠ 66 → A k = A0 k) → (0 ≤ x6.toInt ∧ x6.toInt ≤ 9) → 9 - x6.toInt < (m : Int) → pmE pg X pg_tyl pg_cl (d + 6) 152 61 [.ref 55, .int 2, .int x2, .int x3, .int x4, .int x5, .int x6] [] (cd f A R wr) Q := by
  have bv := VV_b hv
  intro m
  induction m with
  | zero =>
    intro A x5 x6 hI hF gx6 hm
    exfalso
    have l0 := zi_lo x6
    have u0 := zi_hi x6
    omega
  | succ m ih =>
    intro A x5 x6 hI hF gx6 hm
    refine pe_iload (j := 6) (by decide +kernel) rfl ?_
    refine pe_aload_n (j := 0) (by decide +kernel) rfl ?_
    refine pe_get (j := 12) (ci := 6) (n := 0) (by decide +kernel) (by decide +kernel) cd_o55 rfl ?_
    refine pe_topV (v := .ref 33) (hR2) ?_
    refine pe_get (j := 28) (ci := 7) (n := 0) (by decide +kernel) (by decide +kernel) cd_o33 rfl ?_
    refine pe_topV (v := .ref v) (hR0) ?_
    refine pe_get (j := 70) (ci := 9) (n := 0) (by decide +kernel) (by decide +kernel) (cv_o hv) rfl ?_
    have hr_f_16v := cv_people hv hI
    refine pz_icmp_ge (off := 63) (t := 136) (by decide +kernel) (by decide) rfl rfl rfl (fun h1 => ?_) (fun h1 => ?_)
    · skip
      exact k_136_0 A x5 x6 hI (fun k n66 => (hF k n66)) (by omega)
    · skip
      refine pe_iload_n (j := 2) (by decide +kernel) rfl ?_
      refine pe_iload (j := 6) (by decide +kernel) rfl ?_
      refine pi_S (j := 73) (mj := 89) (by decide +kernel) (by decide +kernel) rfl ?_
      show pmE pg X pg_tyl pg_cl (d + 5) 89 0 [.int x2, .int x6] [] (cd f A R wr) _
      refine pe_iload_n (j := 0) (by decide +kernel) rfl ?_
      refine pe_iload_n (j := 1) (by decide +kernel) rfl ?_
      refine pw_shr (by decide +kernel) (fun z2 => ?_)
      refine pe_iconstv (n := 1) (v := 1) (by decide +kernel) (by decide +kernel) ?_
      refine pz_and1 (by decide +kernel) (fun z3 hz3 => ?_)
      refine pz_if_eq (off := 7) (t := 12) (by decide +kernel) (by decide) rfl rfl (fun h4 => ?_) (fun h4 => ?_)
      · skip
        refine pe_iconstv (n := 0) (v := 0) (by decide +kernel) (by decide +kernel) ?_
        refine pe_iret (by decide +kernel) rfl rfl ⟨rfl, rfl, ?_⟩
        show pmE pg X pg_tyl pg_cl (d + 6) 152 82 [.ref 55, .int 2, .int x2, .int x3, .int x4, .int x5, .int x6] [.int 0] (cd f A R wr) _
        refine pz_if_ne (off := 48) (t := 130) (by decide +kernel) (by decide) rfl kz_0 (fun h5 => by omega) (fun h5 => ?_)
        refine pe_aload_n (j := 0) (by decide +kernel) rfl ?_
        refine pe_get (j := 12) (ci := 6) (n := 0) (by decide +kernel) (by decide +kernel) cd_o55 rfl ?_
        refine pe_topV (v := .ref 33) (hR2) ?_
        refine pe_iload (j := 4) (by decide +kernel) rfl ?_
        refine pe_iload (j := 6) (by decide +kernel) rfl ?_
        refine pz_callV (j := 59) (mj := 77) (by decide +kernel) (cll_V (args := [.int x6, .int x4]) (n := 2) (by decide +kernel) rfl rfl cd_o33 (by decide +kernel) (Nat.le_of_ble_eq_true rfl) (Nat.le_of_ble_eq_true rfl)) (CM_77 hX hI hv (hR0) (by omega) (by omega)) (fun q6a q6b q6c q6d hqq6 => ?_)
        obtain ⟨rq6, eq6, kq6⟩ := hqq6
        cases eq6
        refine ⟨rfl, rfl, ?_⟩
        show pmE pg X pg_tyl pg_cl (d + 6) 152 96 [.ref 55, .int 2, .int x2, .int x3, .int x4, .int x5, .int x6] [.int rq6] (cd f A R wr) _
        refine pe_aload_n (j := 0) (by decide +kernel) rfl ?_
        refine pe_get (j := 53) (ci := 6) (n := 2) (by decide +kernel) (by decide +kernel) cd_o55 rfl ?_
        have lw8 := zi_lo rq6
        have uw8 := zi_hi rq6
        have lw9 := zi_lo (f 882)
        have uw9 := zi_hi (f 882)
        refine pz_icmp_lt (off := 30) (t := 130) (by decide +kernel) (by decide) rfl rfl rfl (fun h7 => ?_) (fun h7 => ?_)
        · skip
          refine pz_iinc (j := 6) (n := 1) (by decide +kernel) rfl rfl (by decide +kernel) (by omega) (by omega) (fun z10 hz10 => ?_)
          show pmE pg X pg_tyl pg_cl (d + 6) 152 133 [.ref 55, .int 2, .int x2, .int x3, .int x4, .int x5, .int z10] [] (cd f A R wr) _
          refine pe_goto (off := (-72)) (t := 61) (by decide +kernel) (by decide) rfl ?_
          exact ih A x5 z10 hI (fun k n66 => (hF k n66)) (by omega) (by omega)
        · skip
          refine pe_aload_n (j := 0) (by decide +kernel) rfl ?_
          refine pe_get (j := 22) (ci := 6) (n := 4) (by decide +kernel) (by decide +kernel) cd_o55 rfl ?_
          refine pe_iload_n (j := 1) (by decide +kernel) rfl ?_
          refine pe_iload (j := 6) (by decide +kernel) rfl ?_
          refine cz_st66 (by decide +kernel) hI kz_2 (by omega) (by omega) (by simp only [CT]; omega) (fun A11 eA11 hIA11 => ?_)
          refine pe_iload (j := 5) (by decide +kernel) rfl ?_
          refine pe_aload_n (j := 0) (by decide +kernel) rfl ?_
          refine pe_iload_n (j := 1) (by decide +kernel) rfl ?_
          refine pe_iconstv (n := 1) (v := 1) (by decide +kernel) (by decide +kernel) ?_
          refine pe_iadd (by decide +kernel) ?_
          refine pe_top (v := 3) (by decide +kernel) ?_
          refine pe_iload_n (j := 2) (by decide +kernel) rfl ?_
          refine pe_iconstv (n := 1) (v := 1) (by decide +kernel) (by decide +kernel) ?_
          refine pe_iload (j := 6) (by decide +kernel) rfl ?_
          refine pz_shl1 (by decide +kernel) rfl (by omega) (by omega) (fun z13 hz13 => ?_)
          refine pw_or (by decide +kernel) (fun z14 => ?_)
          refine pe_iload_n (j := 3) (by decide +kernel) rfl ?_
          refine pz_callS (j := 101) (mj := 152) (by decide +kernel) (by decide +kernel) rfl (CM_152_3 hX hIA11 hv (hR0) (hR2)) (fun q15a q15b q15c q15d hqq15 => ?_)
          obtain ⟨A16, rq15, eq15, hIq15, hFq15, kq15⟩ := hqq15
          cases eq15
          refine ⟨rfl, rfl, ?_⟩
          show pmE pg X pg_tyl pg_cl (d + 6) 152 127 [.ref 55, .int 2, .int x2, .int x3, .int x4, .int x5, .int x6] [.int rq15, .int x5] (cd f A16 R wr) _
          refine pw_add (by decide +kernel) (fun z17 => ?_)
          refine pe_istore (j := 5) (ls' := [.ref 55, .int 2, .int x2, .int x3, .int x4, .int z17, .int x6]) (by decide +kernel) (Nat.le_of_ble_eq_true rfl) rfl ?_
          refine pz_iinc (j := 6) (n := 1) (by decide +kernel) rfl rfl (by decide +kernel) (by omega) (by omega) (fun z18 hz18 => ?_)
          show pmE pg X pg_tyl pg_cl (d + 6) 152 133 [.ref 55, .int 2, .int x2, .int x3, .int x4, .int z17, .int z18] [] (cd f A16 R wr) _
          refine pe_goto (off := (-72)) (t := 61) (by decide +kernel) (by decide) rfl ?_
          exact ih A16 z17 z18 hIq15 (fun k n66 => ((hFq15 k n66)).trans ((upa_fr eA11 n66).trans ((hF k n66)))) (by omega) (by omega)
      · skip
        refine pe_iconstv (n := 1) (v := 1) (by decide +kernel) (by decide +kernel) ?_
        refine pe_goto (off := 4) (t := 13) (by decide +kernel) (by decide) rfl ?_
        refine pe_iret (by decide +kernel) rfl rfl ⟨rfl, rfl, ?_⟩
        show pmE pg X pg_tyl pg_cl (d + 6) 152 82 [.ref 55, .int 2, .int x2, .int x3, .int x4, .int x5, .int x6] [.int 1] (cd f A R wr) _
        refine pz_if_ne (off := 48) (t := 130) (by decide +kernel) (by decide) rfl kz_1 (fun h19 => ?_) (fun h19 => by omega)
        refine pz_iinc (j := 6) (n := 1) (by decide +kernel) rfl rfl (by decide +kernel) (by omega) (by omega) (fun z20 hz20 => ?_)
        show pmE pg X pg_tyl pg_cl (d + 6) 152 133 [.ref 55, .int 2, .int x2, .int x3, .int x4, .int x5, .int z20] [] (cd f A R wr) _
        refine pe_goto (off := (-72)) (t := 61) (by decide +kernel) (by decide) rfl ?_
        exact ih A x5 z20 hI (fun k n66 => (hF k n66)) (by omega) (by omega)
set_option maxRecDepth 100000 in
set_option maxHeartbeats 8000000 in
theorem CM_152_4 {X : pm_X} {d : Nat} {wr : pm_W} {f : Nat → Int32} {A : Nat → List Int32} {R : Nat → Value} {x2 x3 : Int32} {v : Nat} (hX : XO X) (hI : CI f A R) (hv : VV v) (hR0 : R 0 = .ref v) (hR2 : R 2 = .ref 33) : pmE pg X pg_tyl pg_cl (d + 6) 152 0 (pm_ent (pm_max pg 152) [.ref 55, .int 2, .int x2, .int x3]) [] (cd f A R wr) (fun q => ∃ (A' : Nat → List Int32) (r : Int32), q = (some (.int r), cd f A' R wr, 0, 0) ∧ CI f A' R ∧ (∀ k : Nat, k ≠ 66 → A' k = A k) ∧ ((True ∧ True))) := by
  have bv := VV_b hv
  show pmE pg X pg_tyl pg_cl (d + 6) 152 0 [.ref 55, .int 2, .int x2, .int x3, pm_dead, pm_dead, pm_dead] [] (cd f A R wr) _
  refine pe_aload_n (j := 0) (by decide +kernel) rfl ?_
  refine pe_get (j := 22) (ci := 6) (n := 4) (by decide +kernel) (by decide +kernel) cd_o55 rfl ?_
  refine pe_iload_n (j := 1) (by decide +kernel) rfl ?_
  refine pe_iconstv (n := 1) (v := 1) (by decide +kernel) (by decide +kernel) ?_
  refine pe_isub (by decide +kernel) ?_
  refine pe_top (v := 1) (by decide +kernel) ?_
  refine pz_iald (by decide +kernel) cd_a66 (cl_66 hI) kz_1 (by omega) (by omega) (fun v2 ev2 => ?_)
  have rv2 : 0 ≤ v2.toInt ∧ v2.toInt ≤ 8 := ct_66 hI ev2
  refine pe_istore (j := 4) (ls' := [.ref 55, .int 2, .int x2, .int x3, .int v2, pm_dead, pm_dead]) (by decide +kernel) (Nat.le_of_ble_eq_true rfl) rfl ?_
  refine pe_iload_n (j := 1) (by decide +kernel) rfl ?_
  refine pe_iconstv (n := 2) (v := 2) (by decide +kernel) (by decide +kernel) ?_
  refine pz_icmp_lt (off := 29) (t := 41) (by decide +kernel) (by decide) rfl kz_2 kz_2 (fun h3 => by omega) (fun h3 => ?_)
  refine pe_aload_n (j := 0) (by decide +kernel) rfl ?_
  refine pe_get (j := 12) (ci := 6) (n := 0) (by decide +kernel) (by decide +kernel) cd_o55 rfl ?_
  refine pe_topV (v := .ref 33) (hR2) ?_
  refine pe_iload (j := 4) (by decide +kernel) rfl ?_
  refine pe_aload_n (j := 0) (by decide +kernel) rfl ?_
  refine pe_get (j := 22) (ci := 6) (n := 4) (by decide +kernel) (by decide +kernel) cd_o55 rfl ?_
  refine pe_iconstv (n := 0) (v := 0) (by decide +kernel) (by decide +kernel) ?_
  refine pz_iald (by decide +kernel) cd_a66 (cl_66 hI) kz_0 (by omega) (by omega) (fun v4 ev4 => ?_)
  have rv4 : 0 ≤ v4.toInt ∧ v4.toInt ≤ 8 := ct_66 hI ev4
  refine pz_callV (j := 59) (mj := 77) (by decide +kernel) (cll_V (args := [.int v4, .int v2]) (n := 2) (by decide +kernel) rfl rfl cd_o33 (by decide +kernel) (Nat.le_of_ble_eq_true rfl) (Nat.le_of_ble_eq_true rfl)) (CM_77 hX hI hv (hR0) (by omega) (by omega)) (fun q5a q5b q5c q5d hqq5 => ?_)
  obtain ⟨rq5, eq5, kq5⟩ := hqq5
  cases eq5
  refine ⟨rfl, rfl, ?_⟩
  show pmE pg X pg_tyl pg_cl (d + 6) 152 30 [.ref 55, .int 2, .int x2, .int x3, .int v2, pm_dead, pm_dead] [.int rq5] (cd f A R wr) _
  refine pe_aload_n (j := 0) (by decide +kernel) rfl ?_
  refine pe_get (j := 53) (ci := 6) (n := 2) (by decide +kernel) (by decide +kernel) cd_o55 rfl ?_
  have lw7 := zi_lo rq5
  have uw7 := zi_hi rq5
  have lw8 := zi_lo (f 882)
  have uw8 := zi_hi (f 882)
  refine pz_icmp_lt (off := 7) (t := 41) (by decide +kernel) (by decide) rfl rfl rfl (fun h6 => ?_) (fun h6 => ?_)
  · skip
    refine pe_iconstv (n := 0) (v := 0) (by decide +kernel) (by decide +kernel) ?_
    refine pe_istore (j := 5) (ls' := [.ref 55, .int 2, .int x2, .int x3, .int v2, .int 0, pm_dead]) (by decide +kernel) (Nat.le_of_ble_eq_true rfl) rfl ?_
    refine pe_iload_n (j := 1) (by decide +kernel) rfl ?_
    refine pe_iload_n (j := 3) (by decide +kernel) rfl ?_
    have lw10 := zi_lo x3
    have uw10 := zi_hi x3
    refine pz_icmp_ge (off := 9) (t := 55) (by decide +kernel) (by decide) rfl kz_2 rfl (fun h9 => ?_) (fun h9 => ?_)
    · skip
      refine pe_iload (j := 5) (by decide +kernel) rfl ?_
      exact pe_iret (by decide +kernel) rfl rfl ⟨A, 0, rfl, hI, (fun k n66 => rfl), ⟨trivial, trivial⟩⟩
    · skip
      refine pe_iload_n (j := 1) (by decide +kernel) rfl ?_
      refine pe_bipushv (n := 6) (v := 6) (by decide +kernel) (by decide +kernel) ?_
      refine pz_icmp_lt (off := 6) (t := 58) (by decide +kernel) (by decide) rfl kz_2 kz_6 (fun h11 => ?_) (fun h11 => by omega)
      refine pe_iconstv (n := 0) (v := 0) (by decide +kernel) (by decide +kernel) ?_
      refine pe_istore (j := 6) (ls' := [.ref 55, .int 2, .int x2, .int x3, .int v2, .int 0, .int 0]) (by decide +kernel) (Nat.le_of_ble_eq_true rfl) rfl ?_
      refine CL_152_4_61 hX hv (hR0) (hR2) (by omega) (by omega) (fun A12 y13 y14 hIy15 hFA12 gy14 => ?_) 10 A 0 0 hI (fun k _ => rfl) (by decide +kernel) (by decide +kernel)
      refine pe_iload (j := 5) (by decide +kernel) rfl ?_
      exact pe_iret (by decide +kernel) rfl rfl ⟨A12, y13, rfl, hIy15, (fun k n66 => (hFA12 k n66)), ⟨trivial, trivial⟩⟩
  · skip
    refine pe_iconstv (n := 1) (v := 1) (by decide +kernel) (by decide +kernel) ?_
    refine pe_goto (off := 4) (t := 42) (by decide +kernel) (by decide) rfl ?_
    refine pe_istore (j := 5) (ls' := [.ref 55, .int 2, .int x2, .int x3, .int v2, .int 1, pm_dead]) (by decide +kernel) (Nat.le_of_ble_eq_true rfl) rfl ?_
    refine pe_iload_n (j := 1) (by decide +kernel) rfl ?_
    refine pe_iload_n (j := 3) (by decide +kernel) rfl ?_
    have lw17 := zi_lo x3
    have uw17 := zi_hi x3
    refine pz_icmp_ge (off := 9) (t := 55) (by decide +kernel) (by decide) rfl kz_2 rfl (fun h16 => ?_) (fun h16 => ?_)
    · skip
      refine pe_iload (j := 5) (by decide +kernel) rfl ?_
      exact pe_iret (by decide +kernel) rfl rfl ⟨A, 1, rfl, hI, (fun k n66 => rfl), ⟨trivial, trivial⟩⟩
    · skip
      refine pe_iload_n (j := 1) (by decide +kernel) rfl ?_
      refine pe_bipushv (n := 6) (v := 6) (by decide +kernel) (by decide +kernel) ?_
      refine pz_icmp_lt (off := 6) (t := 58) (by decide +kernel) (by decide) rfl kz_2 kz_6 (fun h18 => ?_) (fun h18 => by omega)
      refine pe_iconstv (n := 0) (v := 0) (by decide +kernel) (by decide +kernel) ?_
      refine pe_istore (j := 6) (ls' := [.ref 55, .int 2, .int x2, .int x3, .int v2, .int 1, .int 0]) (by decide +kernel) (Nat.le_of_ble_eq_true rfl) rfl ?_
      refine CL_152_4_61 hX hv (hR0) (hR2) (by omega) (by omega) (fun A19 y20 y21 hIy22 hFA19 gy21 => ?_) 10 A 1 0 hI (fun k _ => rfl) (by decide +kernel) (by decide +kernel)
      refine pe_iload (j := 5) (by decide +kernel) rfl ?_
      exact pe_iret (by decide +kernel) rfl rfl ⟨A19, y20, rfl, hIy22, (fun k n66 => (hFA19 k n66)), ⟨trivial, trivial⟩⟩
set_option maxRecDepth 100000 in
set_option maxHeartbeats 8000000 in
theorem CL_152_5_61 {X : pm_X} {d : Nat} {wr : pm_W} {Q : pm_R → Prop} {f : Nat → Int32} {A0 : Nat → List Int32} {R : Nat → Value} {x2 x3 x4 : Int32} {v : Nat} (hX : XO X) (hv : VV v) (hR0 : R 0 = .ref v) (hR2 : R 2 = .ref 33) (gx3 : (2 ≤ x3.toInt)) (gx4 : (0 ≤ x4.toInt ∧ x4.toInt ≤ 8)) (k_136_0 : ∀ (A' : Nat → List Int32) (y5 : Int32) (y6 : Int32), CI f A' R → (∀ k : Nat, k ≠ 66 → A' k = A0 k) → (0 ≤ y6.toInt ∧ y6.toInt ≤ 9) → pmE pg X pg_tyl pg_cl (d + 7) 152 136 [.ref 55, .int 1, .int x2, .int x3, .int x4, .int y5, .int y6] [] (cd f A' R wr) Q) : ∀ (m : Nat) (A : Nat → List Int32) (x5 : Int32) (x6 : Int32), CI f A R → (∀ k : Nat, k ≠ 66 → A k = A0 k) → (0 ≤ x6.toInt ∧ x6.toInt ≤ 9) → 9 - x6.toInt < (m : Int) → pmE pg X pg_tyl pg_cl (d + 7) 152 61 [.ref 55, .int 1, .int x2, .int x3, .int x4, .int x5, .int x6] [] (cd f A R wr) Q := by
  have bv := VV_b hv
  intro m
  induction m with
  | zero =>
    intro A x5 x6 hI hF gx6 hm
    exfalso
    have l0 := zi_lo x6
    have u0 := zi_hi x6
    omega
  | succ m ih =>
    intro A x5 x6 hI hF gx6 hm
    refine pe_iload (j := 6) (by decide +kernel) rfl ?_
    refine pe_aload_n (j := 0) (by decide +kernel) rfl ?_
    refine pe_get (j := 12) (ci := 6) (n := 0) (by decide +kernel) (by decide +kernel) cd_o55 rfl ?_
    refine pe_topV (v := .ref 33) (hR2) ?_
    refine pe_get (j := 28) (ci := 7) (n := 0) (by decide +kernel) (by decide +kernel) cd_o33 rfl ?_
    refine pe_topV (v := .ref v) (hR0) ?_
    refine pe_get (j := 70) (ci := 9) (n := 0) (by decide +kernel) (by decide +kernel) (cv_o hv) rfl ?_
    have hr_f_16v := cv_people hv hI
    refine pz_icmp_ge (off := 63) (t := 136) (by decide +kernel) (by decide) rfl rfl rfl (fun h1 => ?_) (fun h1 => ?_)
    · skip
      exact k_136_0 A x5 x6 hI (fun k n66 => (hF k n66)) (by omega)
    · skip
      refine pe_iload_n (j := 2) (by decide +kernel) rfl ?_
      refine pe_iload (j := 6) (by decide +kernel) rfl ?_
      refine pi_S (j := 73) (mj := 89) (by decide +kernel) (by decide +kernel) rfl ?_
      show pmE pg X pg_tyl pg_cl (d + 6) 89 0 [.int x2, .int x6] [] (cd f A R wr) _
      refine pe_iload_n (j := 0) (by decide +kernel) rfl ?_
      refine pe_iload_n (j := 1) (by decide +kernel) rfl ?_
      refine pw_shr (by decide +kernel) (fun z2 => ?_)
      refine pe_iconstv (n := 1) (v := 1) (by decide +kernel) (by decide +kernel) ?_
      refine pz_and1 (by decide +kernel) (fun z3 hz3 => ?_)
      refine pz_if_eq (off := 7) (t := 12) (by decide +kernel) (by decide) rfl rfl (fun h4 => ?_) (fun h4 => ?_)
      · skip
        refine pe_iconstv (n := 0) (v := 0) (by decide +kernel) (by decide +kernel) ?_
        refine pe_iret (by decide +kernel) rfl rfl ⟨rfl, rfl, ?_⟩
        show pmE pg X pg_tyl pg_cl (d + 7) 152 82 [.ref 55, .int 1, .int x2, .int x3, .int x4, .int x5, .int x6] [.int 0] (cd f A R wr) _
        refine pz_if_ne (off := 48) (t := 130) (by decide +kernel) (by decide) rfl kz_0 (fun h5 => by omega) (fun h5 => ?_)
        refine pe_aload_n (j := 0) (by decide +kernel) rfl ?_
        refine pe_get (j := 12) (ci := 6) (n := 0) (by decide +kernel) (by decide +kernel) cd_o55 rfl ?_
        refine pe_topV (v := .ref 33) (hR2) ?_
        refine pe_iload (j := 4) (by decide +kernel) rfl ?_
        refine pe_iload (j := 6) (by decide +kernel) rfl ?_
        refine pz_callV (j := 59) (mj := 77) (by decide +kernel) (cll_V (args := [.int x6, .int x4]) (n := 2) (by decide +kernel) rfl rfl cd_o33 (by decide +kernel) (Nat.le_of_ble_eq_true rfl) (Nat.le_of_ble_eq_true rfl)) (CM_77 hX hI hv (hR0) (by omega) (by omega)) (fun q6a q6b q6c q6d hqq6 => ?_)
        obtain ⟨rq6, eq6, kq6⟩ := hqq6
        cases eq6
        refine ⟨rfl, rfl, ?_⟩
        show pmE pg X pg_tyl pg_cl (d + 7) 152 96 [.ref 55, .int 1, .int x2, .int x3, .int x4, .int x5, .int x6] [.int rq6] (cd f A R wr) _
        refine pe_aload_n (j := 0) (by decide +kernel) rfl ?_
        refine pe_get (j := 53) (ci := 6) (n := 2) (by decide +kernel) (by decide +kernel) cd_o55 rfl ?_
        have lw8 := zi_lo rq6
        have uw8 := zi_hi rq6
        have lw9 := zi_lo (f 882)
        have uw9 := zi_hi (f 882)
        refine pz_icmp_lt (off := 30) (t := 130) (by decide +kernel) (by decide) rfl rfl rfl (fun h7 => ?_) (fun h7 => ?_)
        · skip
          refine pz_iinc (j := 6) (n := 1) (by decide +kernel) rfl rfl (by decide +kernel) (by omega) (by omega) (fun z10 hz10 => ?_)
          show pmE pg X pg_tyl pg_cl (d + 7) 152 133 [.ref 55, .int 1, .int x2, .int x3, .int x4, .int x5, .int z10] [] (cd f A R wr) _
          refine pe_goto (off := (-72)) (t := 61) (by decide +kernel) (by decide) rfl ?_
          exact ih A x5 z10 hI (fun k n66 => (hF k n66)) (by omega) (by omega)
        · skip
          refine pe_aload_n (j := 0) (by decide +kernel) rfl ?_
          refine pe_get (j := 22) (ci := 6) (n := 4) (by decide +kernel) (by decide +kernel) cd_o55 rfl ?_
          refine pe_iload_n (j := 1) (by decide +kernel) rfl ?_
          refine pe_iload (j := 6) (by decide +kernel) rfl ?_
          refine cz_st66 (by decide +kernel) hI kz_1 (by omega) (by omega) (by simp only [CT]; omega) (fun A11 eA11 hIA11 => ?_)
          refine pe_iload (j := 5) (by decide +kernel) rfl ?_
          refine pe_aload_n (j := 0) (by decide +kernel) rfl ?_
          refine pe_iload_n (j := 1) (by decide +kernel) rfl ?_
          refine pe_iconstv (n := 1) (v := 1) (by decide +kernel) (by decide +kernel) ?_
          refine pe_iadd (by decide +kernel) ?_
          refine pe_top (v := 2) (by decide +kernel) ?_
          refine pe_iload_n (j := 2) (by decide +kernel) rfl ?_
          refine pe_iconstv (n := 1) (v := 1) (by decide +kernel) (by decide +kernel) ?_
          refine pe_iload (j := 6) (by decide +kernel) rfl ?_
          refine pz_shl1 (by decide +kernel) rfl (by omega) (by omega) (fun z13 hz13 => ?_)
          refine pw_or (by decide +kernel) (fun z14 => ?_)
          refine pe_iload_n (j := 3) (by decide +kernel) rfl ?_
          refine pz_callS (j := 101) (mj := 152) (by decide +kernel) (by decide +kernel) rfl (CM_152_4 hX hIA11 hv (hR0) (hR2)) (fun q15a q15b q15c q15d hqq15 => ?_)
          obtain ⟨A16, rq15, eq15, hIq15, hFq15, kq15⟩ := hqq15
          cases eq15
          refine ⟨rfl, rfl, ?_⟩
          show pmE pg X pg_tyl pg_cl (d + 7) 152 127 [.ref 55, .int 1, .int x2, .int x3, .int x4, .int x5, .int x6] [.int rq15, .int x5] (cd f A16 R wr) _
          refine pw_add (by decide +kernel) (fun z17 => ?_)
          refine pe_istore (j := 5) (ls' := [.ref 55, .int 1, .int x2, .int x3, .int x4, .int z17, .int x6]) (by decide +kernel) (Nat.le_of_ble_eq_true rfl) rfl ?_
          refine pz_iinc (j := 6) (n := 1) (by decide +kernel) rfl rfl (by decide +kernel) (by omega) (by omega) (fun z18 hz18 => ?_)
          show pmE pg X pg_tyl pg_cl (d + 7) 152 133 [.ref 55, .int 1, .int x2, .int x3, .int x4, .int z17, .int z18] [] (cd f A16 R wr) _
          refine pe_goto (off := (-72)) (t := 61) (by decide +kernel) (by decide) rfl ?_
          exact ih A16 z17 z18 hIq15 (fun k n66 => ((hFq15 k n66)).trans ((upa_fr eA11 n66).trans ((hF k n66)))) (by omega) (by omega)
      · skip
        refine pe_iconstv (n := 1) (v := 1) (by decide +kernel) (by decide +kernel) ?_
        refine pe_goto (off := 4) (t := 13) (by decide +kernel) (by decide) rfl ?_
        refine pe_iret (by decide +kernel) rfl rfl ⟨rfl, rfl, ?_⟩
        show pmE pg X pg_tyl pg_cl (d + 7) 152 82 [.ref 55, .int 1, .int x2, .int x3, .int x4, .int x5, .int x6] [.int 1] (cd f A R wr) _
        refine pz_if_ne (off := 48) (t := 130) (by decide +kernel) (by decide) rfl kz_1 (fun h19 => ?_) (fun h19 => by omega)
        refine pz_iinc (j := 6) (n := 1) (by decide +kernel) rfl rfl (by decide +kernel) (by omega) (by omega) (fun z20 hz20 => ?_)
        show pmE pg X pg_tyl pg_cl (d + 7) 152 133 [.ref 55, .int 1, .int x2, .int x3, .int x4, .int x5, .int z20] [] (cd f A R wr) _
        refine pe_goto (off := (-72)) (t := 61) (by decide +kernel) (by decide) rfl ?_
        exact ih A x5 z20 hI (fun k n66 => (hF k n66)) (by omega) (by omega)
set_option maxRecDepth 100000 in
set_option maxHeartbeats 8000000 in
theorem CM_152_5 {X : pm_X} {d : Nat} {wr : pm_W} {f : Nat → Int32} {A : Nat → List Int32} {R : Nat → Value} {x2 x3 : Int32} {v : Nat} (hX : XO X) (hI : CI f A R) (hv : VV v) (hR0 : R 0 = .ref v) (hR2 : R 2 = .ref 33) : pmE pg X pg_tyl pg_cl (d + 7) 152 0 (pm_ent (pm_max pg 152) [.ref 55, .int 1, .int x2, .int x3]) [] (cd f A R wr) (fun q => ∃ (A' : Nat → List Int32) (r : Int32), q = (some (.int r), cd f A' R wr, 0, 0) ∧ CI f A' R ∧ (∀ k : Nat, k ≠ 66 → A' k = A k) ∧ ((True ∧ True))) := by
  have bv := VV_b hv
  show pmE pg X pg_tyl pg_cl (d + 7) 152 0 [.ref 55, .int 1, .int x2, .int x3, pm_dead, pm_dead, pm_dead] [] (cd f A R wr) _
  refine pe_aload_n (j := 0) (by decide +kernel) rfl ?_
  refine pe_get (j := 22) (ci := 6) (n := 4) (by decide +kernel) (by decide +kernel) cd_o55 rfl ?_
  refine pe_iload_n (j := 1) (by decide +kernel) rfl ?_
  refine pe_iconstv (n := 1) (v := 1) (by decide +kernel) (by decide +kernel) ?_
  refine pe_isub (by decide +kernel) ?_
  refine pe_top (v := 0) (by decide +kernel) ?_
  refine pz_iald (by decide +kernel) cd_a66 (cl_66 hI) kz_0 (by omega) (by omega) (fun v2 ev2 => ?_)
  have rv2 : 0 ≤ v2.toInt ∧ v2.toInt ≤ 8 := ct_66 hI ev2
  refine pe_istore (j := 4) (ls' := [.ref 55, .int 1, .int x2, .int x3, .int v2, pm_dead, pm_dead]) (by decide +kernel) (Nat.le_of_ble_eq_true rfl) rfl ?_
  refine pe_iload_n (j := 1) (by decide +kernel) rfl ?_
  refine pe_iconstv (n := 2) (v := 2) (by decide +kernel) (by decide +kernel) ?_
  refine pz_icmp_lt (off := 29) (t := 41) (by decide +kernel) (by decide) rfl kz_1 kz_2 (fun h3 => ?_) (fun h3 => by omega)
  refine pe_iconstv (n := 0) (v := 0) (by decide +kernel) (by decide +kernel) ?_
  refine pe_istore (j := 5) (ls' := [.ref 55, .int 1, .int x2, .int x3, .int v2, .int 0, pm_dead]) (by decide +kernel) (Nat.le_of_ble_eq_true rfl) rfl ?_
  refine pe_iload_n (j := 1) (by decide +kernel) rfl ?_
  refine pe_iload_n (j := 3) (by decide +kernel) rfl ?_
  have lw5 := zi_lo x3
  have uw5 := zi_hi x3
  refine pz_icmp_ge (off := 9) (t := 55) (by decide +kernel) (by decide) rfl kz_1 rfl (fun h4 => ?_) (fun h4 => ?_)
  · skip
    refine pe_iload (j := 5) (by decide +kernel) rfl ?_
    exact pe_iret (by decide +kernel) rfl rfl ⟨A, 0, rfl, hI, (fun k n66 => rfl), ⟨trivial, trivial⟩⟩
  · skip
    refine pe_iload_n (j := 1) (by decide +kernel) rfl ?_
    refine pe_bipushv (n := 6) (v := 6) (by decide +kernel) (by decide +kernel) ?_
    refine pz_icmp_lt (off := 6) (t := 58) (by decide +kernel) (by decide) rfl kz_1 kz_6 (fun h6 => ?_) (fun h6 => by omega)
    refine pe_iconstv (n := 0) (v := 0) (by decide +kernel) (by decide +kernel) ?_
    refine pe_istore (j := 6) (ls' := [.ref 55, .int 1, .int x2, .int x3, .int v2, .int 0, .int 0]) (by decide +kernel) (Nat.le_of_ble_eq_true rfl) rfl ?_
    refine CL_152_5_61 hX hv (hR0) (hR2) (by omega) (by omega) (fun A7 y8 y9 hIy10 hFA7 gy9 => ?_) 10 A 0 0 hI (fun k _ => rfl) (by decide +kernel) (by decide +kernel)
    refine pe_iload (j := 5) (by decide +kernel) rfl ?_
    exact pe_iret (by decide +kernel) rfl rfl ⟨A7, y8, rfl, hIy10, (fun k n66 => (hFA7 k n66)), ⟨trivial, trivial⟩⟩
set_option maxRecDepth 100000 in
set_option maxHeartbeats 8000000 in
theorem CM_151 {X : pm_X} {d : Nat} {wr : pm_W} {f : Nat → Int32} {A : Nat → List Int32} {R : Nat → Value} {x2 x3 x4 : Int32} {v : Nat} (hX : XO X) (hI : CI f A R) (hv : VV v) (hR0 : R 0 = .ref v) (gx2 : (0 ≤ x2.toInt ∧ x2.toInt ≤ 8)) : pmE pg X pg_tyl pg_cl (d + 8) 151 0 (pm_ent (pm_max pg 151) [.ref 55, .ref 33, .int x2, .int x3, .int x4]) [] (cd f A R wr) (fun q => ∃ (f' : Nat → Int32) (A' : Nat → List Int32) (R' : Nat → Value) (r : Int32), q = (some (.int r), cd f' A' R' wr, 0, 0) ∧ CI f' A' R' ∧ (∀ k : Nat, k ≠ 882 → f' k = f k) ∧ (∀ k : Nat, k ≠ 66 → A' k = A k) ∧ (∀ k : Nat, k ≠ 2 → R' k = R k) ∧ ((True ∧ True))) := by
  have bv := VV_b hv
  show pmE pg X pg_tyl pg_cl (d + 8) 151 0 [.ref 55, .ref 33, .int x2, .int x3, .int x4] [] (cd f A R wr) _
  refine pe_aload_n (j := 0) (by decide +kernel) rfl ?_
  refine pe_aload_n (j := 1) (by decide +kernel) rfl ?_
  refine cz_putR2 (jj := 12) (ty := (.object "RingVillage$State")) (by decide +kernel) (by decide +kernel) hI pm_fit_obj ⟨_, rfl⟩ (fun R1 eR1 hIR1 => ?_)
  refine pe_aload_n (j := 0) (by decide +kernel) rfl ?_
  refine pe_iload (j := 4) (by decide +kernel) rfl ?_
  refine cz_put882 (jj := 53) (by decide +kernel) (by decide +kernel) hIR1 (fun f2 ef2 hIf2 => ?_)
  refine pe_aload_n (j := 0) (by decide +kernel) rfl ?_
  refine pe_get (j := 22) (ci := 6) (n := 4) (by decide +kernel) (by decide +kernel) cd_o55 rfl ?_
  refine pe_iconstv (n := 0) (v := 0) (by decide +kernel) (by decide +kernel) ?_
  refine pe_iload_n (j := 2) (by decide +kernel) rfl ?_
  refine cz_st66 (by decide +kernel) hIf2 kz_0 (by omega) (by omega) (by simp only [CT]; omega) (fun A3 eA3 hIA3 => ?_)
  refine pe_aload_n (j := 0) (by decide +kernel) rfl ?_
  refine pe_iconstv (n := 1) (v := 1) (by decide +kernel) (by decide +kernel) ?_
  refine pe_iconstv (n := 1) (v := 1) (by decide +kernel) (by decide +kernel) ?_
  refine pe_iload_n (j := 2) (by decide +kernel) rfl ?_
  refine pz_shl1 (by decide +kernel) rfl (by omega) (by omega) (fun z4 hz4 => ?_)
  refine pe_iload_n (j := 3) (by decide +kernel) rfl ?_
  refine pz_callS (j := 101) (mj := 152) (by decide +kernel) (by decide +kernel) rfl (CM_152_5 hX hIA3 hv ((upr_fr eR1 (by decide)).trans (hR0)) (upr_at eR1)) (fun q5a q5b q5c q5d hqq5 => ?_)
  obtain ⟨A6, rq5, eq5, hIq5, hFq5, kq5⟩ := hqq5
  cases eq5
  refine ⟨rfl, rfl, ?_⟩
  show pmE pg X pg_tyl pg_cl (d + 8) 151 27 [.ref 55, .ref 33, .int x2, .int x3, .int x4] [.int rq5] (cd f2 A6 R1 wr) _
  exact pe_iret (by decide +kernel) rfl rfl ⟨f2, A6, R1, rq5, rfl, hIq5, (fun k n882 => upf_fr ef2 n882), (fun k n66 => ((hFq5 k n66)).trans (upa_fr eA3 n66)), (fun k n2 => upr_fr eR1 n2), ⟨trivial, trivial⟩⟩
set_option maxRecDepth 100000 in
set_option maxHeartbeats 8000000 in
theorem CL_157_3 {X : pm_X} {d : Nat} {wr : pm_W} {Q : pm_R → Prop} {f : Nat → Int32} {A0 : Nat → List Int32} {R : Nat → Value} {x3 : Int32} {v : Nat} (hX : XO X) (hv : VV v) (k_46_0 : ∀ (A' : Nat → List Int32) (y4 : Int32) (v5 : Value), CI f A' R → (∀ k : Nat, k ≠ 84 → A' k = A0 k) → (2 ≤ y4.toInt ∧ y4.toInt ≤ 6) → pmE pg X pg_tyl pg_cl (d) 157 46 [.ref 83, .ref v, .ref 55, .int x3, .int y4, v5] [] (cd f A' R wr) Q) : ∀ (m : Nat) (A : Nat → List Int32) (x4 : Int32) (u5 : Value), CI f A R → (∀ k : Nat, k ≠ 84 → A k = A0 k) → (2 ≤ x4.toInt ∧ x4.toInt ≤ 6) → 6 - x4.toInt < (m : Int) → pmE pg X pg_tyl pg_cl (d) 157 3 [.ref 83, .ref v, .ref 55, .int x3, .int x4, u5] [] (cd f A R wr) Q := by
  have bv := VV_b hv
  intro m
  induction m with
  | zero =>
    intro A x4 u5 hI hF gx4 hm
    exfalso
    have l0 := zi_lo x4
    have u0 := zi_hi x4
    omega
  | succ m ih =>
    intro A x4 u5 hI hF gx4 hm
    refine pe_iload (j := 4) (by decide +kernel) rfl ?_
    refine pe_aload_n (j := 2) (by decide +kernel) rfl ?_
    refine pe_get (j := 52) (ci := 6) (n := 6) (by decide +kernel) (by decide +kernel) cd_o55 rfl ?_
    have hr_f_886 := cf_886 hI
    refine pz_icmp_ge (off := 37) (t := 46) (by decide +kernel) (by decide) rfl rfl rfl (fun h1 => ?_) (fun h1 => ?_)
    · skip
      exact k_46_0 A x4 (u5) hI (fun k n84 => (hF k n84)) (by omega)
    · skip
      refine pe_aload_n (j := 2) (by decide +kernel) rfl ?_
      refine pe_get (j := 49) (ci := 6) (n := 5) (by decide +kernel) (by decide +kernel) cd_o55 rfl ?_
      refine pe_iload (j := 4) (by decide +kernel) rfl ?_
      refine pz_iald (by decide +kernel) cd_a67 (cl_67 hI) rfl (by omega) (by omega) (fun v2 ev2 => ?_)
      have rv2 : 0 ≤ v2.toInt ∧ v2.toInt ≤ 8 := ct_67 hI ev2
      rw [show A 67 = A0 67 from (hF 67 (by decide))] at ev2
      refine pe_istore (j := 5) (ls' := [.ref 83, .ref v, .ref 55, .int x3, .int x4, .int v2]) (by decide +kernel) (Nat.le_of_ble_eq_true rfl) rfl ?_
      refine pe_aload_n (j := 0) (by decide +kernel) rfl ?_
      refine pe_get (j := 9) (ci := 3) (n := 2) (by decide +kernel) (by decide +kernel) cd_o83 rfl ?_
      refine pe_iload (j := 5) (by decide +kernel) rfl ?_
      refine pe_dup2 (by decide +kernel) ⟨rfl, rfl⟩ ?_
      refine pz_iald (by decide +kernel) cd_a84 (cl_84 hI) rfl (by omega) (by omega) (fun v3 ev3 => ?_)
      refine pe_aload_n (j := 1) (by decide +kernel) rfl ?_
      refine pe_get (j := 63) (ci := 9) (n := 4) (by decide +kernel) (by decide +kernel) (cv_o hv) rfl ?_
      refine pe_iload (j := 5) (by decide +kernel) rfl ?_
      refine pz_iald (by decide +kernel) (cv_a2 hv) (cv_l2 hv hI) rfl (by omega) (by omega) (fun v4 ev4 => ?_)
      rw [show A (v + 2) = A0 (v + 2) from (hF (v + 2) (by omega))] at ev4
      refine pe_iload_n (j := 3) (by decide +kernel) rfl ?_
      refine pw_mul (by decide +kernel) (fun z5 => ?_)
      refine pw_add (by decide +kernel) (fun z6 => ?_)
      refine cz_st84 (by decide +kernel) hI rfl (by omega) (by omega) (fun A7 eA7 hIA7 => ?_)
      refine pz_iinc (j := 4) (n := 1) (by decide +kernel) rfl rfl (by decide +kernel) (by omega) (by omega) (fun z8 hz8 => ?_)
      show pmE pg X pg_tyl pg_cl (d) 157 43 [.ref 83, .ref v, .ref 55, .int x3, .int z8, .int v2] [] (cd f A7 R wr) _
      refine pe_goto (off := (-40)) (t := 3) (by decide +kernel) (by decide) rfl ?_
      exact ih A7 z8 (.int v2) hIA7 (fun k n84 => (upa_fr eA7 n84).trans ((hF k n84))) (by omega) (by omega)
set_option maxRecDepth 100000 in
set_option maxHeartbeats 8000000 in
theorem CM_157 {X : pm_X} {d : Nat} {wr : pm_W} {f : Nat → Int32} {A : Nat → List Int32} {R : Nat → Value} {x3 : Int32} {v : Nat} (hX : XO X) (hI : CI f A R) (hv : VV v) : pmE pg X pg_tyl pg_cl (d) 157 0 (pm_ent (pm_max pg 157) [.ref 83, .ref v, .ref 55, .int x3]) [] (cd f A R wr) (fun q => ∃ (A' : Nat → List Int32), q = (none, cd f A' R wr, 0, 0) ∧ CI f A' R ∧ (∀ k : Nat, k ≠ 84 → A' k = A k) ∧ ((True))) := by
  have bv := VV_b hv
  show pmE pg X pg_tyl pg_cl (d) 157 0 [.ref 83, .ref v, .ref 55, .int x3, pm_dead, pm_dead] [] (cd f A R wr) _
  refine pe_iconstv (n := 2) (v := 2) (by decide +kernel) (by decide +kernel) ?_
  refine pe_istore (j := 4) (ls' := [.ref 83, .ref v, .ref 55, .int x3, .int 2, pm_dead]) (by decide +kernel) (Nat.le_of_ble_eq_true rfl) rfl ?_
  refine CL_157_3 hX hv (fun A1 y2 u3 hIy4 hFA1 gy2 => ?_) 5 A 2 (pm_dead) hI (fun k _ => rfl) (by decide +kernel) (by decide +kernel)
  exact pe_vret (by decide +kernel) rfl ⟨A1, rfl, hIy4, (fun k n84 => (hFA1 k n84)), trivial⟩
set_option maxRecDepth 100000 in
set_option maxHeartbeats 8000000 in
theorem CL_156_27 {X : pm_X} {d : Nat} {wr : pm_W} {Q : pm_R → Prop} {f0 : Nat → Int32} {A0 : Nat → List Int32} {R0 : Nat → Value} {x3 : Int32} {v : Nat} (hX : XO X) (hv : VV v) (hR0 : R0 0 = .ref v) (k_119_0 : ∀ (f' : Nat → Int32) (A' : Nat → List Int32) (R' : Nat → Value) (y5 : Int32) (v6 : Value), CI f' A' R' → (∀ k : Nat, k ≠ 530 → k ≠ 881 → k ≠ 882 → k ≠ 886 → k ≠ 887 → k ≠ 1328 → k ≠ 1329 → f' k = f0 k) → (∀ k : Nat, k ≠ 39 → k ≠ 40 → k ≠ 65 → k ≠ 66 → k ≠ 67 → k ≠ 84 → A' k = A0 k) → (∀ k : Nat, k ≠ 2 → k ≠ 5 → R' k = R0 k) → (0 ≤ y5.toInt ∧ y5.toInt ≤ 7) → pmE pg X pg_tyl pg_cl (d + 10) 156 119 [.ref 83, .ref 33, .ref 55, .int x3, .ref v, .int y5, v6] [] (cd f' A' R' wr) Q) : ∀ (m : Nat) (f : Nat → Int32) (A : Nat → List Int32) (R : Nat → Value) (x5 : Int32) (u6 : Value), CI f A R → (∀ k : Nat, k ≠ 530 → k ≠ 881 → k ≠ 882 → k ≠ 886 → k ≠ 887 → k ≠ 1328 → k ≠ 1329 → f k = f0 k) → (∀ k : Nat, k ≠ 39 → k ≠ 40 → k ≠ 65 → k ≠ 66 → k ≠ 67 → k ≠ 84 → A k = A0 k) → (∀ k : Nat, k ≠ 2 → k ≠ 5 → R k = R0 k) → (0 ≤ x5.toInt ∧ x5.toInt ≤ 7) → 7 - x5.toInt < (m : Int) → pmE pg X pg_tyl pg_cl (d + 10) 156 27 [.ref 83, .ref 33, .ref 55, .int x3, .ref v, .int x5, u6] [] (cd f A R wr) Q := by
  have bv := VV_b hv
  intro m
  induction m with
  | zero =>
    intro f A R x5 u6 hI hG hF hH gx5 hm
    exfalso
    have l0 := zi_lo x5
    have u0 := zi_hi x5
    omega
  | succ m ih =>
    intro f A R x5 u6 hI hG hF hH gx5 hm
    refine pe_iload (j := 5) (by decide +kernel) rfl ?_
    refine pe_aload (j := 4) (by decide +kernel) rfl ?_
    refine pe_get (j := 34) (ci := 9) (n := 2) (by decide +kernel) (by decide +kernel) (cv_o hv) rfl ?_
    have hr_f_16v2 := cv_wants hv hI
    refine pz_icmp_ge (off := 85) (t := 119) (by decide +kernel) (by decide) rfl rfl rfl (fun h1 => ?_) (fun h1 => ?_)
    · skip
      exact k_119_0 f A R x5 (u6) hI (fun k n530 n881 n882 n886 n887 n1328 n1329 => (hG k n530 n881 n882 n886 n887 n1328 n1329)) (fun k n39 n40 n65 n66 n67 n84 => (hF k n39 n40 n65 n66 n67 n84)) (fun k n2 n5 => (hH k n2 n5)) (by omega)
    · skip
      refine pe_aload (j := 4) (by decide +kernel) rfl ?_
      refine pe_iload (j := 5) (by decide +kernel) rfl ?_
      refine pe_iconstv (n := 2) (v := 2) (by decide +kernel) (by decide +kernel) ?_
      refine pi_V (j := 39) (mj := 65) (by decide +kernel) (cll_V (args := [.int 2, .int x5]) (n := 2) (by decide +kernel) rfl rfl (cv_o hv) (by decide +kernel) (Nat.le_of_ble_eq_true rfl) (Nat.le_of_ble_eq_true rfl)) ?_
      show pmE pg X pg_tyl pg_cl (d + 9) 65 0 [.ref v, .int x5, .int 2] [] (cd f A R wr) _
      refine pe_aload_n (j := 0) (by decide +kernel) rfl ?_
      refine pe_get (j := 25) (ci := 9) (n := 6) (by decide +kernel) (by decide +kernel) (cv_o hv) rfl ?_
      refine pe_iload_n (j := 1) (by decide +kernel) rfl ?_
      refine pe_iconstv (n := 4) (v := 4) (by decide +kernel) (by decide +kernel) ?_
      refine pz_mul (by decide +kernel) rfl kz_4 (by omega) (by omega) (fun z2 hz2 => ?_)
      refine pe_iload_n (j := 2) (by decide +kernel) rfl ?_
      refine pz_add (by decide +kernel) hz2 kz_2 (by omega) (by omega) (fun z3 hz3 => ?_)
      clear hz2
      refine pz_iald (by decide +kernel) (cv_a4 hv) (cv_l4 hv hI) hz3 (by omega) (by omega) (fun v4 ev4 => ?_)
      rw [show A (v + 4) = A0 (v + 4) from (hF (v + 4) (by omega) (by omega) (by omega) (by omega) (by omega) (by omega))] at ev4
      clear hz3
      refine pe_iret (by decide +kernel) rfl rfl ⟨rfl, rfl, ?_⟩
      show pmE pg X pg_tyl pg_cl (d + 10) 156 45 [.ref 83, .ref 33, .ref 55, .int x3, .ref v, .int x5, u6] [.int v4] (cd f A R wr) _
      refine pe_istore (j := 6) (ls' := [.ref 83, .ref 33, .ref 55, .int x3, .ref v, .int x5, .int v4]) (by decide +kernel) (Nat.le_of_ble_eq_true rfl) rfl ?_
      refine pe_aload_n (j := 2) (by decide +kernel) rfl ?_
      refine pe_aload_n (j := 1) (by decide +kernel) rfl ?_
      refine pe_iload (j := 5) (by decide +kernel) rfl ?_
      refine pe_iload_n (j := 3) (by decide +kernel) rfl ?_
      refine pz_callV (j := 43) (mj := 133) (by decide +kernel) (cll_V (args := [.int x3, .int x5, .ref 33]) (n := 3) (by decide +kernel) rfl rfl cd_o55 (by decide +kernel) (Nat.le_of_ble_eq_true rfl) (Nat.le_of_ble_eq_true rfl)) (CM_133 hX hI hv (((hH 0 (by decide) (by decide))).trans (hR0)) (by omega)) (fun q5a q5b q5c q5d hqq5 => ?_)
      obtain ⟨f6, A7, R8, rq5, eq5, hIq5, hGq5, hFq5, hHq5, kq5⟩ := hqq5
      cases eq5
      refine ⟨rfl, rfl, ?_⟩
      rcases kq5 with kq5 | kq5
      · skip
        obtain ⟨erq5, kq5⟩ := kq5
        subst erq5
        show pmE pg X pg_tyl pg_cl (d + 10) 156 55 [.ref 83, .ref 33, .ref 55, .int x3, .ref v, .int x5, .int v4] [.int 0] (cd f6 A7 R8 wr) _
        refine pz_if_eq (off := 58) (t := 113) (by decide +kernel) (by decide) rfl kz_0 (fun h9 => ?_) (fun h9 => by omega)
        refine pz_iinc (j := 5) (n := 1) (by decide +kernel) rfl rfl (by decide +kernel) (by omega) (by omega) (fun z10 hz10 => ?_)
        show pmE pg X pg_tyl pg_cl (d + 10) 156 116 [.ref 83, .ref 33, .ref 55, .int x3, .ref v, .int z10, .int v4] [] (cd f6 A7 R8 wr) _
        refine pe_goto (off := (-89)) (t := 27) (by decide +kernel) (by decide) rfl ?_
        exact ih f6 A7 R8 z10 (.int v4) hIq5 (fun k n530 n881 n882 n886 n887 n1328 n1329 => ((hGq5 k n881 n882 n886 n887)).trans ((hG k n530 n881 n882 n886 n887 n1328 n1329))) (fun k n39 n40 n65 n66 n67 n84 => ((hFq5 k n65 n66 n67)).trans ((hF k n39 n40 n65 n66 n67 n84))) (fun k n2 n5 => ((hHq5 k n2 n5)).trans ((hH k n2 n5))) (by omega) (by omega)
      · skip
        obtain ⟨erq5, kq5⟩ := kq5
        subst erq5
        show pmE pg X pg_tyl pg_cl (d + 10) 156 55 [.ref 83, .ref 33, .ref 55, .int x3, .ref v, .int x5, .int v4] [.int 1] (cd f6 A7 R8 wr) _
        refine pz_if_eq (off := 58) (t := 113) (by decide +kernel) (by decide) rfl kz_1 (fun h11 => by omega) (fun h11 => ?_)
        refine pe_aload_n (j := 1) (by decide +kernel) rfl ?_
        refine pe_aload_n (j := 2) (by decide +kernel) rfl ?_
        refine pe_get (j := 49) (ci := 6) (n := 5) (by decide +kernel) (by decide +kernel) cd_o55 rfl ?_
        refine pe_aload_n (j := 2) (by decide +kernel) rfl ?_
        refine pe_get (j := 52) (ci := 6) (n := 6) (by decide +kernel) (by decide +kernel) cd_o55 rfl ?_
        have hr_f6_886 := cf_886 hIq5
        refine pe_iload (j := 6) (by decide +kernel) rfl ?_
        refine pe_bipushv (n := 99) (v := 99) (by decide +kernel) (by decide +kernel) ?_
        refine pz_callV (j := 55) (mj := 81) (by decide +kernel) (cll_V (args := [.int 99, .int v4, .int (f6 886), .ref 67]) (n := 4) (by decide +kernel) rfl rfl cd_o33 (by decide +kernel) (Nat.le_of_ble_eq_true rfl) (Nat.le_of_ble_eq_true rfl)) (CM_81_1 hX hIq5 (by omega)) (fun q12a q12b q12c q12d hqq12 => ?_)
        obtain ⟨f13, A14, eq12, hIq12, hGq12, hFq12, kq12⟩ := hqq12
        cases eq12
        refine ⟨rfl, rfl, ?_⟩
        show pmE pg X pg_tyl pg_cl (d + 10) 156 74 [.ref 83, .ref 33, .ref 55, .int x3, .ref v, .int x5, .int v4] [] (cd f13 A14 R8 wr) _
        refine pe_aload_n (j := 0) (by decide +kernel) rfl ?_
        refine pe_dup (by decide +kernel) rfl ?_
        refine pe_get (j := 21) (ci := 3) (n := 0) (by decide +kernel) (by decide +kernel) cd_o83 rfl ?_
        refine pe_top (v := (f 1328)) (((hGq12 1328 (by decide))).trans ((hGq5 1328 (by decide) (by decide) (by decide) (by decide)))) ?_
        refine pe_iconstv (n := 1) (v := 1) (by decide +kernel) (by decide +kernel) ?_
        refine pe_iload (j := 5) (by decide +kernel) rfl ?_
        refine pz_shl6 (by decide +kernel) rfl (by omega) (by omega) (fun z15 hz15 => ?_)
        refine pw_or (by decide +kernel) (fun z16 => ?_)
        refine cz_put1328 (jj := 21) (by decide +kernel) (by decide +kernel) hIq12 (fun f17 ef17 hIf17 => ?_)
        refine pe_aload_n (j := 0) (by decide +kernel) rfl ?_
        refine pe_dup (by decide +kernel) rfl ?_
        refine pe_get (j := 25) (ci := 3) (n := 1) (by decide +kernel) (by decide +kernel) cd_o83 rfl ?_
        refine pe_top (v := (f 1329)) ((upf_fr ef17 (by decide)).trans (((hGq12 1329 (by decide))).trans ((hGq5 1329 (by decide) (by decide) (by decide) (by decide))))) ?_
        refine pe_aload (j := 4) (by decide +kernel) rfl ?_
        refine pe_iload (j := 5) (by decide +kernel) rfl ?_
        refine pe_iconstv (n := 3) (v := 3) (by decide +kernel) (by decide +kernel) ?_
        refine pi_V (j := 39) (mj := 65) (by decide +kernel) (cll_V (args := [.int 3, .int x5]) (n := 2) (by decide +kernel) rfl rfl (cv_o hv) (by decide +kernel) (Nat.le_of_ble_eq_true rfl) (Nat.le_of_ble_eq_true rfl)) ?_
        show pmE pg X pg_tyl pg_cl (d + 9) 65 0 [.ref v, .int x5, .int 3] [] (cd f17 A14 R8 wr) _
        refine pe_aload_n (j := 0) (by decide +kernel) rfl ?_
        refine pe_get (j := 25) (ci := 9) (n := 6) (by decide +kernel) (by decide +kernel) (cv_o hv) rfl ?_
        refine pe_iload_n (j := 1) (by decide +kernel) rfl ?_
        refine pe_iconstv (n := 4) (v := 4) (by decide +kernel) (by decide +kernel) ?_
        refine pz_mul (by decide +kernel) rfl kz_4 (by omega) (by omega) (fun z18 hz18 => ?_)
        refine pe_iload_n (j := 2) (by decide +kernel) rfl ?_
        refine pz_add (by decide +kernel) hz18 kz_3 (by omega) (by omega) (fun z19 hz19 => ?_)
        clear hz18
        refine pz_iald (by decide +kernel) (cv_a4 hv) (cv_l4 hv hIf17) hz19 (by omega) (by omega) (fun v20 ev20 => ?_)
        rw [show A14 (v + 4) = A0 (v + 4) from ((hFq12 (v + 4) (by omega) (by omega))).trans (((hFq5 (v + 4) (by omega) (by omega) (by omega))).trans ((hF (v + 4) (by omega) (by omega) (by omega) (by omega) (by omega) (by omega))))] at ev20
        clear hz19
        refine pe_iret (by decide +kernel) rfl rfl ⟨rfl, rfl, ?_⟩
        show pmE pg X pg_tyl pg_cl (d + 10) 156 100 [.ref 83, .ref 33, .ref 55, .int x3, .ref v, .int x5, .int v4] [.int v20, .int (f 1329), .ref 83] (cd f17 A14 R8 wr) _
        refine pw_add (by decide +kernel) (fun z21 => ?_)
        refine cz_put1329 (jj := 25) (by decide +kernel) (by decide +kernel) hIf17 (fun f22 ef22 hIf22 => ?_)
        refine pe_aload_n (j := 0) (by decide +kernel) rfl ?_
        refine pe_aload (j := 4) (by decide +kernel) rfl ?_
        refine pe_aload_n (j := 2) (by decide +kernel) rfl ?_
        refine pe_iload (j := 6) (by decide +kernel) rfl ?_
        refine pz_callV (j := 59) (mj := 157) (by decide +kernel) (cll_V (args := [.int v4, .ref 55, .ref v]) (n := 3) (by decide +kernel) rfl rfl cd_o83 (by decide +kernel) (Nat.le_of_ble_eq_true rfl) (Nat.le_of_ble_eq_true rfl)) (CM_157 hX hIf22 hv) (fun q23a q23b q23c q23d hqq23 => ?_)
        obtain ⟨A24, eq23, hIq23, hFq23, kq23⟩ := hqq23
        cases eq23
        refine ⟨rfl, rfl, ?_⟩
        show pmE pg X pg_tyl pg_cl (d + 10) 156 113 [.ref 83, .ref 33, .ref 55, .int x3, .ref v, .int x5, .int v4] [] (cd f22 A24 R8 wr) _
        refine pz_iinc (j := 5) (n := 1) (by decide +kernel) rfl rfl (by decide +kernel) (by omega) (by omega) (fun z25 hz25 => ?_)
        show pmE pg X pg_tyl pg_cl (d + 10) 156 116 [.ref 83, .ref 33, .ref 55, .int x3, .ref v, .int z25, .int v4] [] (cd f22 A24 R8 wr) _
        refine pe_goto (off := (-89)) (t := 27) (by decide +kernel) (by decide) rfl ?_
        exact ih f22 A24 R8 z25 (.int v4) hIq23 (fun k n530 n881 n882 n886 n887 n1328 n1329 => (upf_fr ef22 n1329).trans ((upf_fr ef17 n1328).trans (((hGq12 k n530)).trans (((hGq5 k n881 n882 n886 n887)).trans ((hG k n530 n881 n882 n886 n887 n1328 n1329)))))) (fun k n39 n40 n65 n66 n67 n84 => ((hFq23 k n84)).trans (((hFq12 k n39 n40)).trans (((hFq5 k n65 n66 n67)).trans ((hF k n39 n40 n65 n66 n67 n84))))) (fun k n2 n5 => ((hHq5 k n2 n5)).trans ((hH k n2 n5))) (by omega) (by omega)
set_option maxRecDepth 100000 in
set_option maxHeartbeats 8000000 in
theorem CM_156 {X : pm_X} {d : Nat} {wr : pm_W} {f : Nat → Int32} {A : Nat → List Int32} {R : Nat → Value} {x3 : Int32} {v : Nat} (hX : XO X) (hI : CI f A R) (hv : VV v) (hR0 : R 0 = .ref v) : pmE pg X pg_tyl pg_cl (d + 10) 156 0 (pm_ent (pm_max pg 156) [.ref 83, .ref 33, .ref 55, .int x3]) [] (cd f A R wr) (fun q => ∃ (f' : Nat → Int32) (A' : Nat → List Int32) (R' : Nat → Value), q = (none, cd f' A' R' wr, 0, 0) ∧ CI f' A' R' ∧ (∀ k : Nat, k ≠ 530 → k ≠ 881 → k ≠ 882 → k ≠ 886 → k ≠ 887 → k ≠ 1328 → k ≠ 1329 → f' k = f k) ∧ (∀ k : Nat, k ≠ 39 → k ≠ 40 → k ≠ 65 → k ≠ 66 → k ≠ 67 → k ≠ 84 → A' k = A k) ∧ (∀ k : Nat, k ≠ 2 → k ≠ 5 → R' k = R k) ∧ ((True))) := by
  have bv := VV_b hv
  show pmE pg X pg_tyl pg_cl (d + 10) 156 0 [.ref 83, .ref 33, .ref 55, .int x3, pm_dead, pm_dead, pm_dead] [] (cd f A R wr) _
  refine pe_aload_n (j := 1) (by decide +kernel) rfl ?_
  refine pe_get (j := 15) (ci := 7) (n := 0) (by decide +kernel) (by decide +kernel) cd_o33 rfl ?_
  refine pe_topV (v := .ref v) (hR0) ?_
  refine pe_astore (j := 4) (ls' := [.ref 83, .ref 33, .ref 55, .int x3, .ref v, pm_dead, pm_dead]) (by decide +kernel) (Nat.le_of_ble_eq_true rfl) rfl ?_
  refine pe_aload_n (j := 0) (by decide +kernel) rfl ?_
  refine pe_iconstv (n := 0) (v := 0) (by decide +kernel) (by decide +kernel) ?_
  refine cz_put1328 (jj := 21) (by decide +kernel) (by decide +kernel) hI (fun f1 ef1 hIf1 => ?_)
  refine pe_aload_n (j := 0) (by decide +kernel) rfl ?_
  refine pe_iconstv (n := 0) (v := 0) (by decide +kernel) (by decide +kernel) ?_
  refine cz_put1329 (jj := 25) (by decide +kernel) (by decide +kernel) hIf1 (fun f2 ef2 hIf2 => ?_)
  refine pe_aload_n (j := 0) (by decide +kernel) rfl ?_
  refine pe_get (j := 9) (ci := 3) (n := 2) (by decide +kernel) (by decide +kernel) cd_o83 rfl ?_
  refine pe_iconstv (n := 0) (v := 0) (by decide +kernel) (by decide +kernel) ?_
  refine cz_fill (j := 28) (k := 84) (n := 9) (by decide +kernel) (by decide +kernel) rfl cd_a84 (fun _ => cd_s84) hIf2 (cl_84 hIf2) (by decide +kernel) (ct_no (by decide +kernel)) (fun A3 eA3 hIA3 => ?_)
  refine pe_iconstv (n := 0) (v := 0) (by decide +kernel) (by decide +kernel) ?_
  refine pe_istore (j := 5) (ls' := [.ref 83, .ref 33, .ref 55, .int x3, .ref v, .int 0, pm_dead]) (by decide +kernel) (Nat.le_of_ble_eq_true rfl) rfl ?_
  refine CL_156_27 hX hv (hR0) (fun f4 A5 R6 y7 u8 hIy9 hGf4 hFA5 hHR6 gy7 => ?_) 8 f2 A3 R 0 (pm_dead) hIA3 (fun k _ _ _ _ _ _ _ => rfl) (fun k _ _ _ _ _ _ => rfl) (fun k _ _ => rfl) (by decide +kernel) (by decide +kernel)
  exact pe_vret (by decide +kernel) rfl ⟨f4, A5, R6, rfl, hIy9, (fun k n530 n881 n882 n886 n887 n1328 n1329 => ((hGf4 k n530 n881 n882 n886 n887 n1328 n1329)).trans ((upf_fr ef2 n1329).trans (upf_fr ef1 n1328))), (fun k n39 n40 n65 n66 n67 n84 => ((hFA5 k n39 n40 n65 n66 n67 n84)).trans (upa_fr eA3 n84)), (fun k n2 n5 => (hHR6 k n2 n5)), trivial⟩
set_option maxRecDepth 100000 in
set_option maxHeartbeats 8000000 in
theorem CL_128_2 {X : pm_X} {d : Nat} {wr : pm_W} {Q : pm_R → Prop} {f0 : Nat → Int32} {A0 : Nat → List Int32} {R : Nat → Value} {v : Nat} (hX : XO X) (hv : VV v) (hR0 : R 0 = .ref v) (k_51_0 : ∀ (f' : Nat → Int32) (A' : Nat → List Int32) (y2 : Int32), CI f' A' R → (∀ k : Nat, k ≠ 1360 → k ≠ 1361 → f' k = f0 k) → (∀ k : Nat, k ≠ 39 → k ≠ 40 → A' k = A0 k) → (0 ≤ y2.toInt ∧ y2.toInt ≤ 9) → pmE pg X pg_tyl pg_cl (d + 4) 128 51 [.ref 85, .ref 33, .int y2] [] (cd f' A' R wr) Q) : ∀ (m : Nat) (f : Nat → Int32) (A : Nat → List Int32) (x2 : Int32), CI f A R → (∀ k : Nat, k ≠ 1360 → k ≠ 1361 → f k = f0 k) → (∀ k : Nat, k ≠ 39 → k ≠ 40 → A k = A0 k) → (0 ≤ x2.toInt ∧ x2.toInt ≤ 9) → 9 - x2.toInt < (m : Int) → pmE pg X pg_tyl pg_cl (d + 4) 128 2 [.ref 85, .ref 33, .int x2] [] (cd f A R wr) Q := by
  have bv := VV_b hv
  intro m
  induction m with
  | zero =>
    intro f A x2 hI hG hF gx2 hm
    exfalso
    have l0 := zi_lo x2
    have u0 := zi_hi x2
    omega
  | succ m ih =>
    intro f A x2 hI hG hF gx2 hm
    refine pe_iload_n (j := 2) (by decide +kernel) rfl ?_
    refine pe_aload_n (j := 1) (by decide +kernel) rfl ?_
    refine pe_get (j := 34) (ci := 7) (n := 0) (by decide +kernel) (by decide +kernel) cd_o33 rfl ?_
    refine pe_topV (v := .ref v) (hR0) ?_
    refine pe_get (j := 38) (ci := 9) (n := 0) (by decide +kernel) (by decide +kernel) (cv_o hv) rfl ?_
    have hr_f_16v := cv_people hv hI
    refine pz_icmp_ge (off := 41) (t := 51) (by decide +kernel) (by decide) rfl rfl rfl (fun h1 => ?_) (fun h1 => ?_)
    · skip
      exact k_51_0 f A x2 hI (fun k n1360 n1361 => (hG k n1360 n1361)) (fun k n39 n40 => (hF k n39 n40)) (by omega)
    · skip
      refine pe_aload_n (j := 0) (by decide +kernel) rfl ?_
      refine pi_V (j := 43) (mj := 129) (by decide +kernel) (cll_V (args := []) (n := 0) (by decide +kernel) rfl rfl cd_o85 (by decide +kernel) (Nat.le_of_ble_eq_true rfl) (Nat.le_of_ble_eq_true rfl)) ?_
      show pmE pg X pg_tyl pg_cl (d + 3) 129 0 [.ref 85] [] (cd f A R wr) _
      refine pe_aload_n (j := 0) (by decide +kernel) rfl ?_
      refine pe_aload_n (j := 0) (by decide +kernel) rfl ?_
      refine pe_get (j := 9) (ci := 2) (n := 0) (by decide +kernel) (by decide +kernel) cd_o85 rfl ?_
      refine pe_ldc (j := 55) (v := 1103515245) (by decide +kernel) (by decide +kernel) ?_
      refine pw_mul (by decide +kernel) (fun z2 => ?_)
      refine pe_sipushv (n := 12345) (v := 12345) (by decide +kernel) (by decide +kernel) ?_
      refine pw_add (by decide +kernel) (fun z3 => ?_)
      refine cz_put1360 (jj := 9) (by decide +kernel) (by decide +kernel) hI (fun f4 ef4 hIf4 => ?_)
      refine pe_aload_n (j := 0) (by decide +kernel) rfl ?_
      refine pe_get (j := 9) (ci := 2) (n := 0) (by decide +kernel) (by decide +kernel) cd_o85 rfl ?_
      refine pe_top (v := z3) (upf_at ef4) ?_
      refine pe_bipushv (n := 16) (v := 16) (by decide +kernel) (by decide +kernel) ?_
      refine pz_ushr16 (by decide +kernel) (fun z5 hz5 => ?_)
      refine pe_bipushv (n := 100) (v := 100) (by decide +kernel) (by decide +kernel) ?_
      refine pz_rem (by decide +kernel) rfl kz_100 (by omega) (by omega) (fun z6 hz6 gz6 kz6 => ?_)
      refine pe_iret (by decide +kernel) rfl rfl ⟨rfl, rfl, ?_⟩
      show pmE pg X pg_tyl pg_cl (d + 4) 128 17 [.ref 85, .ref 33, .int x2] [.int z6] (cd f4 A R wr) _
      refine pe_aload_n (j := 1) (by decide +kernel) rfl ?_
      refine pe_get (j := 34) (ci := 7) (n := 0) (by decide +kernel) (by decide +kernel) cd_o33 rfl ?_
      refine pe_topV (v := .ref v) (hR0) ?_
      refine pe_get (j := 47) (ci := 9) (n := 5) (by decide +kernel) (by decide +kernel) (cv_o hv) rfl ?_
      refine pe_iload_n (j := 2) (by decide +kernel) rfl ?_
      refine pz_iald (by decide +kernel) (cv_a3 hv) (cv_l3 hv hIf4) rfl (by omega) (by omega) (fun v7 ev7 => ?_)
      rw [show A (v + 3) = A0 (v + 3) from (hF (v + 3) (by omega) (by omega))] at ev7
      have lw9 := zi_lo v7
      have uw9 := zi_hi v7
      refine pz_icmp_ge (off := 19) (t := 45) (by decide +kernel) (by decide) rfl rfl rfl (fun h8 => ?_) (fun h8 => ?_)
      · skip
        refine pz_iinc (j := 2) (n := 1) (by decide +kernel) rfl rfl (by decide +kernel) (by omega) (by omega) (fun z10 hz10 => ?_)
        show pmE pg X pg_tyl pg_cl (d + 4) 128 48 [.ref 85, .ref 33, .int z10] [] (cd f4 A R wr) _
        refine pe_goto (off := (-46)) (t := 2) (by decide +kernel) (by decide) rfl ?_
        exact ih f4 A z10 hIf4 (fun k n1360 n1361 => (upf_fr ef4 n1360).trans ((hG k n1360 n1361))) (fun k n39 n40 => (hF k n39 n40)) (by omega) (by omega)
      · skip
        refine pe_aload_n (j := 1) (by decide +kernel) rfl ?_
        refine pe_iload_n (j := 2) (by decide +kernel) rfl ?_
        refine pz_callV (j := 51) (mj := 86) (by decide +kernel) (cll_V (args := [.int x2]) (n := 1) (by decide +kernel) rfl rfl cd_o33 (by decide +kernel) (Nat.le_of_ble_eq_true rfl) (Nat.le_of_ble_eq_true rfl)) (CM_86 hX hIf4 hv (hR0)) (fun q11a q11b q11c q11d hqq11 => ?_)
        obtain ⟨A12, rq11, eq11, hIq11, hFq11, kq11⟩ := hqq11
        cases eq11
        refine ⟨rfl, rfl, ?_⟩
        rcases kq11 with kq11 | kq11
        · skip
          obtain ⟨erq11, kq11⟩ := kq11
          subst erq11
          show pmE pg X pg_tyl pg_cl (d + 4) 128 34 [.ref 85, .ref 33, .int x2] [.int 0] (cd f4 A12 R wr) _
          refine pe_pop (by decide +kernel) rfl ?_
          refine pe_aload_n (j := 0) (by decide +kernel) rfl ?_
          refine pe_dup (by decide +kernel) rfl ?_
          refine pe_get (j := 15) (ci := 2) (n := 1) (by decide +kernel) (by decide +kernel) cd_o85 rfl ?_
          refine pe_top (v := (f 1361)) (upf_fr ef4 (by decide)) ?_
          refine pe_iconstv (n := 1) (v := 1) (by decide +kernel) (by decide +kernel) ?_
          refine pw_add (by decide +kernel) (fun z13 => ?_)
          refine cz_put1361 (jj := 15) (by decide +kernel) (by decide +kernel) hIq11 (fun f14 ef14 hIf14 => ?_)
          refine pz_iinc (j := 2) (n := 1) (by decide +kernel) rfl rfl (by decide +kernel) (by omega) (by omega) (fun z15 hz15 => ?_)
          show pmE pg X pg_tyl pg_cl (d + 4) 128 48 [.ref 85, .ref 33, .int z15] [] (cd f14 A12 R wr) _
          refine pe_goto (off := (-46)) (t := 2) (by decide +kernel) (by decide) rfl ?_
          exact ih f14 A12 z15 hIf14 (fun k n1360 n1361 => (upf_fr ef14 n1361).trans ((upf_fr ef4 n1360).trans ((hG k n1360 n1361)))) (fun k n39 n40 => ((hFq11 k n39 n40)).trans ((hF k n39 n40))) (by omega) (by omega)
        · skip
          obtain ⟨erq11, kq11⟩ := kq11
          subst erq11
          show pmE pg X pg_tyl pg_cl (d + 4) 128 34 [.ref 85, .ref 33, .int x2] [.int 1] (cd f4 A12 R wr) _
          refine pe_pop (by decide +kernel) rfl ?_
          refine pe_aload_n (j := 0) (by decide +kernel) rfl ?_
          refine pe_dup (by decide +kernel) rfl ?_
          refine pe_get (j := 15) (ci := 2) (n := 1) (by decide +kernel) (by decide +kernel) cd_o85 rfl ?_
          refine pe_top (v := (f 1361)) (upf_fr ef4 (by decide)) ?_
          refine pe_iconstv (n := 1) (v := 1) (by decide +kernel) (by decide +kernel) ?_
          refine pw_add (by decide +kernel) (fun z16 => ?_)
          refine cz_put1361 (jj := 15) (by decide +kernel) (by decide +kernel) hIq11 (fun f17 ef17 hIf17 => ?_)
          refine pz_iinc (j := 2) (n := 1) (by decide +kernel) rfl rfl (by decide +kernel) (by omega) (by omega) (fun z18 hz18 => ?_)
          show pmE pg X pg_tyl pg_cl (d + 4) 128 48 [.ref 85, .ref 33, .int z18] [] (cd f17 A12 R wr) _
          refine pe_goto (off := (-46)) (t := 2) (by decide +kernel) (by decide) rfl ?_
          exact ih f17 A12 z18 hIf17 (fun k n1360 n1361 => (upf_fr ef17 n1361).trans ((upf_fr ef4 n1360).trans ((hG k n1360 n1361)))) (fun k n39 n40 => ((hFq11 k n39 n40)).trans ((hF k n39 n40))) (by omega) (by omega)
set_option maxRecDepth 100000 in
set_option maxHeartbeats 8000000 in
theorem CM_128 {X : pm_X} {d : Nat} {wr : pm_W} {f : Nat → Int32} {A : Nat → List Int32} {R : Nat → Value} {v : Nat} (hX : XO X) (hI : CI f A R) (hv : VV v) (hR0 : R 0 = .ref v) : pmE pg X pg_tyl pg_cl (d + 4) 128 0 (pm_ent (pm_max pg 128) [.ref 85, .ref 33]) [] (cd f A R wr) (fun q => ∃ (f' : Nat → Int32) (A' : Nat → List Int32), q = (none, cd f' A' R wr, 0, 0) ∧ CI f' A' R ∧ (∀ k : Nat, k ≠ 1360 → k ≠ 1361 → f' k = f k) ∧ (∀ k : Nat, k ≠ 39 → k ≠ 40 → A' k = A k) ∧ ((True))) := by
  have bv := VV_b hv
  show pmE pg X pg_tyl pg_cl (d + 4) 128 0 [.ref 85, .ref 33, pm_dead] [] (cd f A R wr) _
  refine pe_iconstv (n := 0) (v := 0) (by decide +kernel) (by decide +kernel) ?_
  refine pe_istore_n (j := 2) (ls' := [.ref 85, .ref 33, .int 0]) (by decide +kernel) (Nat.le_of_ble_eq_true rfl) rfl ?_
  refine CL_128_2 hX hv (hR0) (fun f1 A2 y3 hIy4 hGf1 hFA2 gy3 => ?_) 10 f A 0 hI (fun k _ _ => rfl) (fun k _ _ => rfl) (by decide +kernel) (by decide +kernel)
  exact pe_vret (by decide +kernel) rfl ⟨f1, A2, rfl, hIy4, (fun k n1360 n1361 => (hGf1 k n1360 n1361)), (fun k n39 n40 => (hFA2 k n39 n40)), trivial⟩
set_option maxRecDepth 100000 in
set_option maxHeartbeats 8000000 in
theorem CL_127_18 {X : pm_X} {d : Nat} {wr : pm_W} {Q : pm_R → Prop} {f0 : Nat → Int32} {A0 : Nat → List Int32} {R : Nat → Value} {x2 x3 : Int32} {v : Nat} (hX : XO X) (hv : VV v) (hR0 : R 0 = .ref v) (gx3 : (0 ≤ x3.toInt ∧ x3.toInt ≤ 24)) (k_61_0 : ∀ (f' : Nat → Int32) (A' : Nat → List Int32) (y4 : Int32), CI f' A' R → (∀ k : Nat, k ≠ 529 → k ≠ 1360 → k ≠ 1361 → k ≠ 1362 → f' k = f0 k) → (∀ k : Nat, k ≠ 39 → k ≠ 40 → A' k = A0 k) → (0 ≤ y4.toInt ∧ y4.toInt ≤ 24) → pmE pg X pg_tyl pg_cl (d + 5) 127 61 [.ref 85, .ref 33, .int x2, .int x3, .int y4] [] (cd f' A' R wr) Q) : ∀ (m : Nat) (f : Nat → Int32) (A : Nat → List Int32) (x4 : Int32), CI f A R → (∀ k : Nat, k ≠ 529 → k ≠ 1360 → k ≠ 1361 → k ≠ 1362 → f k = f0 k) → (∀ k : Nat, k ≠ 39 → k ≠ 40 → A k = A0 k) → (0 ≤ x4.toInt ∧ x4.toInt ≤ 24) → 24 - x4.toInt < (m : Int) → pmE pg X pg_tyl pg_cl (d + 5) 127 18 [.ref 85, .ref 33, .int x2, .int x3, .int x4] [] (cd f A R wr) Q := by
  have bv := VV_b hv
  intro m
  induction m with
  | zero =>
    intro f A x4 hI hG hF gx4 hm
    exfalso
    have l0 := zi_lo x4
    have u0 := zi_hi x4
    omega
  | succ m ih =>
    intro f A x4 hI hG hF gx4 hm
    refine pe_iload (j := 4) (by decide +kernel) rfl ?_
    refine pe_iload_n (j := 3) (by decide +kernel) rfl ?_
    refine pz_icmp_ge (off := 40) (t := 61) (by decide +kernel) (by decide) rfl rfl rfl (fun h1 => ?_) (fun h1 => ?_)
    · skip
      exact k_61_0 f A x4 hI (fun k n529 n1360 n1361 n1362 => (hG k n529 n1360 n1361 n1362)) (fun k n39 n40 => (hF k n39 n40)) (by omega)
    · skip
      refine pe_aload_n (j := 0) (by decide +kernel) rfl ?_
      refine pe_aload_n (j := 1) (by decide +kernel) rfl ?_
      refine pz_callV (j := 21) (mj := 128) (by decide +kernel) (cll_V (args := [.ref 33]) (n := 1) (by decide +kernel) rfl rfl cd_o85 (by decide +kernel) (Nat.le_of_ble_eq_true rfl) (Nat.le_of_ble_eq_true rfl)) (CM_128 hX hI hv (hR0)) (fun q2a q2b q2c q2d hqq2 => ?_)
      obtain ⟨f3, A4, eq2, hIq2, hGq2, hFq2, kq2⟩ := hqq2
      cases eq2
      refine ⟨rfl, rfl, ?_⟩
      show pmE pg X pg_tyl pg_cl (d + 5) 127 29 [.ref 85, .ref 33, .int x2, .int x3, .int x4] [] (cd f3 A4 R wr) _
      refine pe_aload_n (j := 1) (by decide +kernel) rfl ?_
      refine pz_callV (j := 25) (mj := 90) (by decide +kernel) (cll_V (args := []) (n := 0) (by decide +kernel) rfl rfl cd_o33 (by decide +kernel) (Nat.le_of_ble_eq_true rfl) (Nat.le_of_ble_eq_true rfl)) (CM_90 hX hIq2) (fun q5a q5b q5c q5d hqq5 => ?_)
      obtain ⟨f6, A7, rq5, eq5, hIq5, hGq5, hFq5, kq5⟩ := hqq5
      cases eq5
      refine ⟨rfl, rfl, ?_⟩
      obtain ⟨erq5, kq5⟩ := kq5
      subst erq5
      show pmE pg X pg_tyl pg_cl (d + 5) 127 33 [.ref 85, .ref 33, .int x2, .int x3, .int x4] [.int 1] (cd f6 A7 R wr) _
      refine pe_pop (by decide +kernel) rfl ?_
      refine pe_aload_n (j := 0) (by decide +kernel) rfl ?_
      refine pe_get (j := 18) (ci := 2) (n := 2) (by decide +kernel) (by decide +kernel) cd_o85 rfl ?_
      refine pe_top (v := (f 1362)) (((hGq5 1362 (by decide))).trans ((hGq2 1362 (by decide) (by decide)))) ?_
      refine pe_iconstv (n := (-1)) (v := (-1)) (by decide +kernel) (by decide +kernel) ?_
      have lw9 := zi_lo (f 1362)
      have uw9 := zi_hi (f 1362)
      refine pz_icmp_ne (off := 16) (t := 55) (by decide +kernel) (by decide) rfl rfl kz_m1 (fun h8 => ?_) (fun h8 => ?_)
      · skip
        refine pz_iinc (j := 4) (n := 1) (by decide +kernel) rfl rfl (by decide +kernel) (by omega) (by omega) (fun z10 hz10 => ?_)
        show pmE pg X pg_tyl pg_cl (d + 5) 127 58 [.ref 85, .ref 33, .int x2, .int x3, .int z10] [] (cd f6 A7 R wr) _
        refine pe_goto (off := (-40)) (t := 18) (by decide +kernel) (by decide) rfl ?_
        exact ih f6 A7 z10 hIq5 (fun k n529 n1360 n1361 n1362 => ((hGq5 k n529)).trans (((hGq2 k n1360 n1361)).trans ((hG k n529 n1360 n1361 n1362)))) (fun k n39 n40 => ((hFq5 k n39 n40)).trans (((hFq2 k n39 n40)).trans ((hF k n39 n40)))) (by omega) (by omega)
      · skip
        refine pe_aload_n (j := 1) (by decide +kernel) rfl ?_
        refine pz_callV (j := 31) (mj := 92) (by decide +kernel) (cll_V (args := []) (n := 0) (by decide +kernel) rfl rfl cd_o33 (by decide +kernel) (Nat.le_of_ble_eq_true rfl) (Nat.le_of_ble_eq_true rfl)) (CM_92 hX hIq5 hv (hR0)) (fun q11a q11b q11c q11d hqq11 => ?_)
        obtain ⟨rq11, eq11, kq11⟩ := hqq11
        cases eq11
        refine ⟨rfl, rfl, ?_⟩
        rcases kq11 with kq11 | kq11
        · skip
          obtain ⟨erq11, kq11⟩ := kq11
          subst erq11
          show pmE pg X pg_tyl pg_cl (d + 5) 127 46 [.ref 85, .ref 33, .int x2, .int x3, .int x4] [.int 0] (cd f6 A7 R wr) _
          refine pz_if_ne (off := 9) (t := 55) (by decide +kernel) (by decide) rfl kz_0 (fun h12 => by omega) (fun h12 => ?_)
          refine pe_aload_n (j := 0) (by decide +kernel) rfl ?_
          refine pe_iload (j := 4) (by decide +kernel) rfl ?_
          refine cz_put1362 (jj := 18) (by decide +kernel) (by decide +kernel) hIq5 (fun f13 ef13 hIf13 => ?_)
          refine pz_iinc (j := 4) (n := 1) (by decide +kernel) rfl rfl (by decide +kernel) (by omega) (by omega) (fun z14 hz14 => ?_)
          show pmE pg X pg_tyl pg_cl (d + 5) 127 58 [.ref 85, .ref 33, .int x2, .int x3, .int z14] [] (cd f13 A7 R wr) _
          refine pe_goto (off := (-40)) (t := 18) (by decide +kernel) (by decide) rfl ?_
          exact ih f13 A7 z14 hIf13 (fun k n529 n1360 n1361 n1362 => (upf_fr ef13 n1362).trans (((hGq5 k n529)).trans (((hGq2 k n1360 n1361)).trans ((hG k n529 n1360 n1361 n1362))))) (fun k n39 n40 => ((hFq5 k n39 n40)).trans (((hFq2 k n39 n40)).trans ((hF k n39 n40)))) (by omega) (by omega)
        · skip
          obtain ⟨erq11, kq11⟩ := kq11
          subst erq11
          show pmE pg X pg_tyl pg_cl (d + 5) 127 46 [.ref 85, .ref 33, .int x2, .int x3, .int x4] [.int 1] (cd f6 A7 R wr) _
          refine pz_if_ne (off := 9) (t := 55) (by decide +kernel) (by decide) rfl kz_1 (fun h15 => ?_) (fun h15 => by omega)
          refine pz_iinc (j := 4) (n := 1) (by decide +kernel) rfl rfl (by decide +kernel) (by omega) (by omega) (fun z16 hz16 => ?_)
          show pmE pg X pg_tyl pg_cl (d + 5) 127 58 [.ref 85, .ref 33, .int x2, .int x3, .int z16] [] (cd f6 A7 R wr) _
          refine pe_goto (off := (-40)) (t := 18) (by decide +kernel) (by decide) rfl ?_
          exact ih f6 A7 z16 hIq5 (fun k n529 n1360 n1361 n1362 => ((hGq5 k n529)).trans (((hGq2 k n1360 n1361)).trans ((hG k n529 n1360 n1361 n1362)))) (fun k n39 n40 => ((hFq5 k n39 n40)).trans (((hFq2 k n39 n40)).trans ((hF k n39 n40)))) (by omega) (by omega)
set_option maxRecDepth 100000 in
set_option maxHeartbeats 8000000 in
theorem CM_127 {X : pm_X} {d : Nat} {wr : pm_W} {f : Nat → Int32} {A : Nat → List Int32} {R : Nat → Value} {x2 x3 : Int32} {v : Nat} (hX : XO X) (hI : CI f A R) (hv : VV v) (hR0 : R 0 = .ref v) (gx3 : (0 ≤ x3.toInt ∧ x3.toInt ≤ 24)) : pmE pg X pg_tyl pg_cl (d + 5) 127 0 (pm_ent (pm_max pg 127) [.ref 85, .ref 33, .int x2, .int x3]) [] (cd f A R wr) (fun q => ∃ (f' : Nat → Int32) (A' : Nat → List Int32), q = (none, cd f' A' R wr, 0, 0) ∧ CI f' A' R ∧ (∀ k : Nat, k ≠ 529 → k ≠ 1360 → k ≠ 1361 → k ≠ 1362 → f' k = f k) ∧ (∀ k : Nat, k ≠ 39 → k ≠ 40 → A' k = A k) ∧ ((True))) := by
  have bv := VV_b hv
  show pmE pg X pg_tyl pg_cl (d + 5) 127 0 [.ref 85, .ref 33, .int x2, .int x3, pm_dead] [] (cd f A R wr) _
  refine pe_aload_n (j := 0) (by decide +kernel) rfl ?_
  refine pe_iload_n (j := 2) (by decide +kernel) rfl ?_
  refine cz_put1360 (jj := 9) (by decide +kernel) (by decide +kernel) hI (fun f1 ef1 hIf1 => ?_)
  refine pe_aload_n (j := 0) (by decide +kernel) rfl ?_
  refine pe_iconstv (n := 0) (v := 0) (by decide +kernel) (by decide +kernel) ?_
  refine cz_put1361 (jj := 15) (by decide +kernel) (by decide +kernel) hIf1 (fun f2 ef2 hIf2 => ?_)
  refine pe_aload_n (j := 0) (by decide +kernel) rfl ?_
  refine pe_iconstv (n := (-1)) (v := (-1)) (by decide +kernel) (by decide +kernel) ?_
  refine cz_put1362 (jj := 18) (by decide +kernel) (by decide +kernel) hIf2 (fun f3 ef3 hIf3 => ?_)
  refine pe_iconstv (n := 0) (v := 0) (by decide +kernel) (by decide +kernel) ?_
  refine pe_istore (j := 4) (ls' := [.ref 85, .ref 33, .int x2, .int x3, .int 0]) (by decide +kernel) (Nat.le_of_ble_eq_true rfl) rfl ?_
  refine CL_127_18 hX hv (hR0) (by omega) (fun f4 A5 y6 hIy7 hGf4 hFA5 gy6 => ?_) 25 f3 A 0 hIf3 (fun k _ _ _ _ => rfl) (fun k _ _ => rfl) (by decide +kernel) (by decide +kernel)
  exact pe_vret (by decide +kernel) rfl ⟨f4, A5, rfl, hIy7, (fun k n529 n1360 n1361 n1362 => ((hGf4 k n529 n1360 n1361 n1362)).trans ((upf_fr ef3 n1362).trans ((upf_fr ef2 n1361).trans (upf_fr ef1 n1360)))), (fun k n39 n40 => (hFA5 k n39 n40)), trivial⟩
