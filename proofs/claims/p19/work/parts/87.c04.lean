section
set_option maxRecDepth 100000 in
set_option maxHeartbeats 8000000 in
theorem CL_152_4_61 {X : pm_X} {d : Nat} {wr : pm_W} {Q : pm_R → Prop} {f : Nat → Int32} {A0 : Nat → List Int32} {R : Nat → Value} {x2 x3 x4 : Int32} {v : Nat} (hX : XO X) (hv : VV v) (hR0 : R 0 = .ref v) (hR2 : R 2 = .ref 33) (gx3 : (3 ≤ x3.toInt)) (gx4 : (0 ≤ x4.toInt ∧ x4.toInt ≤ 8)) (k_136_0 : ∀ (A' : Nat → List Int32) (y5 : Int32) (y6 : Int32), CI f A' R → (∀ k : Nat, k ≠ 66 → A' k = A0 k) → (0 ≤ y6.toInt ∧ y6.toInt ≤ 9) → pmE pg X pg_tyl pg_cl (d + 6) 152 136 [.ref 55, .int 2, .int x2, .int x3, .int x4, .int y5, .int y6] [] (cd f A' R wr) Q) : ∀ (m : Nat) (A : Nat → List Int32) (x5 : Int32) (x6 : Int32), CI f A R → (∀ k : Nat, k ≠ 66 → A k = A0 k) → (0 ≤ x6.toInt ∧ x6.toInt ≤ 9) → 9 - x6.toInt < (m : Int) → pmE pg X pg_tyl pg_cl (d + 6) 152 61 [.ref 55, .int 2, .int x2, .int x3, .int x4, .int x5, .int x6] [] (cd f A R wr) Q := by
  have bv := VV_b hv
  intro m
  induction m with
  | zero =>
    intro A x5 x6 hI hF gx6 hm
    exfalso
    have l0 := zi_lo x6
    have u0 := zi_hi x6
    omega
  | succ m ih =>
    intro A x5 x6 hI hF gx6 hm
    refine pe_iload (j := 6) (by decide +kernel) rfl ?_
    refine pe_aload_n (j := 0) (by decide +kernel) rfl ?_
    refine pe_get (j := 12) (ci := 6) (n := 0) (by decide +kernel) (by decide +kernel) cd_o55 rfl ?_
    refine pe_topV (v := .ref 33) (hR2) ?_
    refine pe_get (j := 28) (ci := 7) (n := 0) (by decide +kernel) (by decide +kernel) cd_o33 rfl ?_
    refine pe_topV (v := .ref v) (hR0) ?_
    refine pe_get (j := 70) (ci := 9) (n := 0) (by decide +kernel) (by decide +kernel) (cv_o hv) rfl ?_
    have hr_f_16v := cv_people hv hI
    refine pz_icmp_ge (off := 63) (t := 136) (by decide +kernel) (by decide) rfl rfl rfl (fun h1 => ?_) (fun h1 => ?_)
    · skip
      exact k_136_0 A x5 x6 hI (fun k n66 => (hF k n66)) (by omega)
    · skip
      refine pe_iload_n (j := 2) (by decide +kernel) rfl ?_
      refine pe_iload (j := 6) (by decide +kernel) rfl ?_
      refine pi_S (j := 73) (mj := 89) (by decide +kernel) (by decide +kernel) rfl ?_
      show pmE pg X pg_tyl pg_cl (d + 5) 89 0 [.int x2, .int x6] [] (cd f A R wr) _
      refine pe_iload_n (j := 0) (by decide +kernel) rfl ?_
      refine pe_iload_n (j := 1) (by decide +kernel) rfl ?_
      refine pw_shr (by decide +kernel) (fun z2 => ?_)
      refine pe_iconstv (n := 1) (v := 1) (by decide +kernel) (by decide +kernel) ?_
      refine pz_and1 (by decide +kernel) (fun z3 hz3 => ?_)
      refine pz_if_eq (off := 7) (t := 12) (by decide +kernel) (by decide) rfl rfl (fun h4 => ?_) (fun h4 => ?_)
      · skip
        refine pe_iconstv (n := 0) (v := 0) (by decide +kernel) (by decide +kernel) ?_
        refine pe_iret (by decide +kernel) rfl rfl ⟨rfl, rfl, ?_⟩
        show pmE pg X pg_tyl pg_cl (d + 6) 152 82 [.ref 55, .int 2, .int x2, .int x3, .int x4, .int x5, .int x6] [.int 0] (cd f A R wr) _
        refine pz_if_ne (off := 48) (t := 130) (by decide +kernel) (by decide) rfl kz_0 (fun h5 => by omega) (fun h5 => ?_)
        refine pe_aload_n (j := 0) (by decide +kernel) rfl ?_
        refine pe_get (j := 12) (ci := 6) (n := 0) (by decide +kernel) (by decide +kernel) cd_o55 rfl ?_
        refine pe_topV (v := .ref 33) (hR2) ?_
        refine pe_iload (j := 4) (by decide +kernel) rfl ?_
        refine pe_iload (j := 6) (by decide +kernel) rfl ?_
        refine pz_callV (j := 59) (mj := 77) (by decide +kernel) (cll_V (args := [.int x6, .int x4]) (n := 2) (by decide +kernel) rfl rfl cd_o33 (by decide +kernel) (Nat.le_of_ble_eq_true rfl) (Nat.le_of_ble_eq_true rfl)) (CM_77 hX hI hv (hR0) (by omega) (by omega)) (fun q6a q6b q6c q6d hqq6 => ?_)
        obtain ⟨rq6, eq6, kq6⟩ := hqq6
        cases eq6
        refine ⟨rfl, rfl, ?_⟩
        show pmE pg X pg_tyl pg_cl (d + 6) 152 96 [.ref 55, .int 2, .int x2, .int x3, .int x4, .int x5, .int x6] [.int rq6] (cd f A R wr) _
        refine pe_aload_n (j := 0) (by decide +kernel) rfl ?_
        refine pe_get (j := 53) (ci := 6) (n := 2) (by decide +kernel) (by decide +kernel) cd_o55 rfl ?_
        have lw8 := zi_lo rq6
        have uw8 := zi_hi rq6
        have lw9 := zi_lo (f 882)
        have uw9 := zi_hi (f 882)
        refine pz_icmp_lt (off := 30) (t := 130) (by decide +kernel) (by decide) rfl rfl rfl (fun h7 => ?_) (fun h7 => ?_)
        · skip
          refine pz_iinc (j := 6) (n := 1) (by decide +kernel) rfl rfl (by decide +kernel) (by omega) (by omega) (fun z10 hz10 => ?_)
          show pmE pg X pg_tyl pg_cl (d + 6) 152 133 [.ref 55, .int 2, .int x2, .int x3, .int x4, .int x5, .int z10] [] (cd f A R wr) _
          refine pe_goto (off := (-72)) (t := 61) (by decide +kernel) (by decide) rfl ?_
          exact ih A x5 z10 hI (fun k n66 => (hF k n66)) (by omega) (by omega)
        · skip
          refine pe_aload_n (j := 0) (by decide +kernel) rfl ?_
          refine pe_get (j := 22) (ci := 6) (n := 4) (by decide +kernel) (by decide +kernel) cd_o55 rfl ?_
          refine pe_iload_n (j := 1) (by decide +kernel) rfl ?_
          refine pe_iload (j := 6) (by decide +kernel) rfl ?_
          refine cz_st66 (by decide +kernel) hI kz_2 (by omega) (by omega) (by simp only [CT]; omega) (fun A11 eA11 hIA11 => ?_)
          refine pe_iload (j := 5) (by decide +kernel) rfl ?_
          refine pe_aload_n (j := 0) (by decide +kernel) rfl ?_
          refine pe_iload_n (j := 1) (by decide +kernel) rfl ?_
          refine pe_iconstv (n := 1) (v := 1) (by decide +kernel) (by decide +kernel) ?_
          refine pe_iadd (by decide +kernel) ?_
          refine pe_top (v := 3) (by decide +kernel) ?_
          refine pe_iload_n (j := 2) (by decide +kernel) rfl ?_
          refine pe_iconstv (n := 1) (v := 1) (by decide +kernel) (by decide +kernel) ?_
          refine pe_iload (j := 6) (by decide +kernel) rfl ?_
          refine pz_shl1 (by decide +kernel) rfl (by omega) (by omega) (fun z13 hz13 => ?_)
          refine pw_or (by decide +kernel) (fun z14 => ?_)
          refine pe_iload_n (j := 3) (by decide +kernel) rfl ?_
          refine pz_callS (j := 101) (mj := 152) (by decide +kernel) (by decide +kernel) rfl (CM_152_3 hX hIA11 hv (hR0) (hR2)) (fun q15a q15b q15c q15d hqq15 => ?_)
          obtain ⟨A16, rq15, eq15, hIq15, hFq15, kq15⟩ := hqq15
          cases eq15
          refine ⟨rfl, rfl, ?_⟩
          show pmE pg X pg_tyl pg_cl (d + 6) 152 127 [.ref 55, .int 2, .int x2, .int x3, .int x4, .int x5, .int x6] [.int rq15, .int x5] (cd f A16 R wr) _
          refine pw_add (by decide +kernel) (fun z17 => ?_)
          refine pe_istore (j := 5) (ls' := [.ref 55, .int 2, .int x2, .int x3, .int x4, .int z17, .int x6]) (by decide +kernel) (Nat.le_of_ble_eq_true rfl) rfl ?_
          refine pz_iinc (j := 6) (n := 1) (by decide +kernel) rfl rfl (by decide +kernel) (by omega) (by omega) (fun z18 hz18 => ?_)
          show pmE pg X pg_tyl pg_cl (d + 6) 152 133 [.ref 55, .int 2, .int x2, .int x3, .int x4, .int z17, .int z18] [] (cd f A16 R wr) _
          refine pe_goto (off := (-72)) (t := 61) (by decide +kernel) (by decide) rfl ?_
          exact ih A16 z17 z18 hIq15 (fun k n66 => ((hFq15 k n66)).trans ((upa_fr eA11 n66).trans ((hF k n66)))) (by omega) (by omega)
      · skip
        refine pe_iconstv (n := 1) (v := 1) (by decide +kernel) (by decide +kernel) ?_
        refine pe_goto (off := 4) (t := 13) (by decide +kernel) (by decide) rfl ?_
        refine pe_iret (by decide +kernel) rfl rfl ⟨rfl, rfl, ?_⟩
        show pmE pg X pg_tyl pg_cl (d + 6) 152 82 [.ref 55, .int 2, .int x2, .int x3, .int x4, .int x5, .int x6] [.int 1] (cd f A R wr) _
        refine pz_if_ne (off := 48) (t := 130) (by decide +kernel) (by decide) rfl kz_1 (fun h19 => ?_) (fun h19 => by omega)
        refine pz_iinc (j := 6) (n := 1) (by decide +kernel) rfl rfl (by decide +kernel) (by omega) (by omega) (fun z20 hz20 => ?_)
        show pmE pg X pg_tyl pg_cl (d + 6) 152 133 [.ref 55, .int 2, .int x2, .int x3, .int x4, .int x5, .int z20] [] (cd f A R wr) _
        refine pe_goto (off := (-72)) (t := 61) (by decide +kernel) (by decide) rfl ?_
        exact ih A x5 z20 hI (fun k n66 => (hF k n66)) (by omega) (by omega)
set_option maxRecDepth 100000 in
set_option maxHeartbeats 8000000 in
theorem CM_152_4 {X : pm_X} {d : Nat} {wr : pm_W} {f : Nat → Int32} {A : Nat → List Int32} {R : Nat → Value} {x2 x3 : Int32} {v : Nat} (hX : XO X) (hI : CI f A R) (hv : VV v) (hR0 : R 0 = .ref v) (hR2 : R 2 = .ref 33) : pmE pg X pg_tyl pg_cl (d + 6) 152 0 (pm_ent (pm_max pg 152) [.ref 55, .int 2, .int x2, .int x3]) [] (cd f A R wr) (fun q => ∃ (A' : Nat → List Int32) (r : Int32), q = (some (.int r), cd f A' R wr, 0, 0) ∧ CI f A' R ∧ (∀ k : Nat, k ≠ 66 → A' k = A k) ∧ ((True ∧ True))) := by
  have bv := VV_b hv
  show pmE pg X pg_tyl pg_cl (d + 6) 152 0 [.ref 55, .int 2, .int x2, .int x3, pm_dead, pm_dead, pm_dead] [] (cd f A R wr) _
  refine pe_aload_n (j := 0) (by decide +kernel) rfl ?_
  refine pe_get (j := 22) (ci := 6) (n := 4) (by decide +kernel) (by decide +kernel) cd_o55 rfl ?_
  refine pe_iload_n (j := 1) (by decide +kernel) rfl ?_
  refine pe_iconstv (n := 1) (v := 1) (by decide +kernel) (by decide +kernel) ?_
  refine pe_isub (by decide +kernel) ?_
  refine pe_top (v := 1) (by decide +kernel) ?_
  refine pz_iald (by decide +kernel) cd_a66 (cl_66 hI) kz_1 (by omega) (by omega) (fun v2 ev2 => ?_)
  have rv2 : 0 ≤ v2.toInt ∧ v2.toInt ≤ 8 := ct_66 hI ev2
  refine pe_istore (j := 4) (ls' := [.ref 55, .int 2, .int x2, .int x3, .int v2, pm_dead, pm_dead]) (by decide +kernel) (Nat.le_of_ble_eq_true rfl) rfl ?_
  refine pe_iload_n (j := 1) (by decide +kernel) rfl ?_
  refine pe_iconstv (n := 2) (v := 2) (by decide +kernel) (by decide +kernel) ?_
  refine pz_icmp_lt (off := 29) (t := 41) (by decide +kernel) (by decide) rfl kz_2 kz_2 (fun h3 => by omega) (fun h3 => ?_)
  refine pe_aload_n (j := 0) (by decide +kernel) rfl ?_
  refine pe_get (j := 12) (ci := 6) (n := 0) (by decide +kernel) (by decide +kernel) cd_o55 rfl ?_
  refine pe_topV (v := .ref 33) (hR2) ?_
  refine pe_iload (j := 4) (by decide +kernel) rfl ?_
  refine pe_aload_n (j := 0) (by decide +kernel) rfl ?_
  refine pe_get (j := 22) (ci := 6) (n := 4) (by decide +kernel) (by decide +kernel) cd_o55 rfl ?_
  refine pe_iconstv (n := 0) (v := 0) (by decide +kernel) (by decide +kernel) ?_
  refine pz_iald (by decide +kernel) cd_a66 (cl_66 hI) kz_0 (by omega) (by omega) (fun v4 ev4 => ?_)
  have rv4 : 0 ≤ v4.toInt ∧ v4.toInt ≤ 8 := ct_66 hI ev4
  refine pz_callV (j := 59) (mj := 77) (by decide +kernel) (cll_V (args := [.int v4, .int v2]) (n := 2) (by decide +kernel) rfl rfl cd_o33 (by decide +kernel) (Nat.le_of_ble_eq_true rfl) (Nat.le_of_ble_eq_true rfl)) (CM_77 hX hI hv (hR0) (by omega) (by omega)) (fun q5a q5b q5c q5d hqq5 => ?_)
  obtain ⟨rq5, eq5, kq5⟩ := hqq5
  cases eq5
  refine ⟨rfl, rfl, ?_⟩
  show pmE pg X pg_tyl pg_cl (d + 6) 152 30 [.ref 55, .int 2, .int x2, .int x3, .int v2, pm_dead, pm_dead] [.int rq5] (cd f A R wr) _
  refine pe_aload_n (j := 0) (by decide +kernel) rfl ?_
  refine pe_get (j := 53) (ci := 6) (n := 2) (by decide +kernel) (by decide +kernel) cd_o55 rfl ?_
  have lw7 := zi_lo rq5
  have uw7 := zi_hi rq5
  have lw8 := zi_lo (f 882)
  have uw8 := zi_hi (f 882)
  refine pz_icmp_lt (off := 7) (t := 41) (by decide +kernel) (by decide) rfl rfl rfl (fun h6 => ?_) (fun h6 => ?_)
  · skip
    refine pe_iconstv (n := 0) (v := 0) (by decide +kernel) (by decide +kernel) ?_
    refine pe_istore (j := 5) (ls' := [.ref 55, .int 2, .int x2, .int x3, .int v2, .int 0, pm_dead]) (by decide +kernel) (Nat.le_of_ble_eq_true rfl) rfl ?_
    refine pe_iload_n (j := 1) (by decide +kernel) rfl ?_
    refine pe_iload_n (j := 3) (by decide +kernel) rfl ?_
    have lw10 := zi_lo x3
    have uw10 := zi_hi x3
    refine pz_icmp_ge (off := 9) (t := 55) (by decide +kernel) (by decide) rfl kz_2 rfl (fun h9 => ?_) (fun h9 => ?_)
    · skip
      refine pe_iload (j := 5) (by decide +kernel) rfl ?_
      exact pe_iret (by decide +kernel) rfl rfl ⟨A, 0, rfl, hI, (fun k n66 => rfl), ⟨trivial, trivial⟩⟩
    · skip
      refine pe_iload_n (j := 1) (by decide +kernel) rfl ?_
      refine pe_bipushv (n := 6) (v := 6) (by decide +kernel) (by decide +kernel) ?_
      refine pz_icmp_lt (off := 6) (t := 58) (by decide +kernel) (by decide) rfl kz_2 kz_6 (fun h11 => ?_) (fun h11 => by omega)
      refine pe_iconstv (n := 0) (v := 0) (by decide +kernel) (by decide +kernel) ?_
      refine pe_istore (j := 6) (ls' := [.ref 55, .int 2, .int x2, .int x3, .int v2, .int 0, .int 0]) (by decide +kernel) (Nat.le_of_ble_eq_true rfl) rfl ?_
      refine CL_152_4_61 hX hv (hR0) (hR2) (by omega) (by omega) (fun A12 y13 y14 hIy15 hFA12 gy14 => ?_) 10 A 0 0 hI (fun k _ => rfl) (by decide +kernel) (by decide +kernel)
      refine pe_iload (j := 5) (by decide +kernel) rfl ?_
      exact pe_iret (by decide +kernel) rfl rfl ⟨A12, y13, rfl, hIy15, (fun k n66 => (hFA12 k n66)), ⟨trivial, trivial⟩⟩
  · skip
    refine pe_iconstv (n := 1) (v := 1) (by decide +kernel) (by decide +kernel) ?_
    refine pe_goto (off := 4) (t := 42) (by decide +kernel) (by decide) rfl ?_
    refine pe_istore (j := 5) (ls' := [.ref 55, .int 2, .int x2, .int x3, .int v2, .int 1, pm_dead]) (by decide +kernel) (Nat.le_of_ble_eq_true rfl) rfl ?_
    refine pe_iload_n (j := 1) (by decide +kernel) rfl ?_
    refine pe_iload_n (j := 3) (by decide +kernel) rfl ?_
    have lw17 := zi_lo x3
    have uw17 := zi_hi x3
    refine pz_icmp_ge (off := 9) (t := 55) (by decide +kernel) (by decide) rfl kz_2 rfl (fun h16 => ?_) (fun h16 => ?_)
    · skip
      refine pe_iload (j := 5) (by decide +kernel) rfl ?_
      exact pe_iret (by decide +kernel) rfl rfl ⟨A, 1, rfl, hI, (fun k n66 => rfl), ⟨trivial, trivial⟩⟩
    · skip
      refine pe_iload_n (j := 1) (by decide +kernel) rfl ?_
      refine pe_bipushv (n := 6) (v := 6) (by decide +kernel) (by decide +kernel) ?_
      refine pz_icmp_lt (off := 6) (t := 58) (by decide +kernel) (by decide) rfl kz_2 kz_6 (fun h18 => ?_) (fun h18 => by omega)
      refine pe_iconstv (n := 0) (v := 0) (by decide +kernel) (by decide +kernel) ?_
      refine pe_istore (j := 6) (ls' := [.ref 55, .int 2, .int x2, .int x3, .int v2, .int 1, .int 0]) (by decide +kernel) (Nat.le_of_ble_eq_true rfl) rfl ?_
      refine CL_152_4_61 hX hv (hR0) (hR2) (by omega) (by omega) (fun A19 y20 y21 hIy22 hFA19 gy21 => ?_) 10 A 1 0 hI (fun k _ => rfl) (by decide +kernel) (by decide +kernel)
      refine pe_iload (j := 5) (by decide +kernel) rfl ?_
      exact pe_iret (by decide +kernel) rfl rfl ⟨A19, y20, rfl, hIy22, (fun k n66 => (hFA19 k n66)), ⟨trivial, trivial⟩⟩
set_option maxRecDepth 100000 in
set_option maxHeartbeats 8000000 in
theorem CL_152_5_61 {X : pm_X} {d : Nat} {wr : pm_W} {Q : pm_R → Prop} {f : Nat → Int32} {A0 : Nat → List Int32} {R : Nat → Value} {x2 x3 x4 : Int32} {v : Nat} (hX : XO X) (hv : VV v) (hR0 : R 0 = .ref v) (hR2 : R 2 = .ref 33) (gx3 : (2 ≤ x3.toInt)) (gx4 : (0 ≤ x4.toInt ∧ x4.toInt ≤ 8)) (k_136_0 : ∀ (A' : Nat → List Int32) (y5 : Int32) (y6 : Int32), CI f A' R → (∀ k : Nat, k ≠ 66 → A' k = A0 k) → (0 ≤ y6.toInt ∧ y6.toInt ≤ 9) → pmE pg X pg_tyl pg_cl (d + 7) 152 136 [.ref 55, .int 1, .int x2, .int x3, .int x4, .int y5, .int y6] [] (cd f A' R wr) Q) : ∀ (m : Nat) (A : Nat → List Int32) (x5 : Int32) (x6 : Int32), CI f A R → (∀ k : Nat, k ≠ 66 → A k = A0 k) → (0 ≤ x6.toInt ∧ x6.toInt ≤ 9) → 9 - x6.toInt < (m : Int) → pmE pg X pg_tyl pg_cl (d + 7) 152 61 [.ref 55, .int 1, .int x2, .int x3, .int x4, .int x5, .int x6] [] (cd f A R wr) Q := by
  have bv := VV_b hv
  intro m
  induction m with
  | zero =>
    intro A x5 x6 hI hF gx6 hm
    exfalso
    have l0 := zi_lo x6
    have u0 := zi_hi x6
    omega
  | succ m ih =>
    intro A x5 x6 hI hF gx6 hm
    refine pe_iload (j := 6) (by decide +kernel) rfl ?_
    refine pe_aload_n (j := 0) (by decide +kernel) rfl ?_
    refine pe_get (j := 12) (ci := 6) (n := 0) (by decide +kernel) (by decide +kernel) cd_o55 rfl ?_
    refine pe_topV (v := .ref 33) (hR2) ?_
    refine pe_get (j := 28) (ci := 7) (n := 0) (by decide +kernel) (by decide +kernel) cd_o33 rfl ?_
    refine pe_topV (v := .ref v) (hR0) ?_
    refine pe_get (j := 70) (ci := 9) (n := 0) (by decide +kernel) (by decide +kernel) (cv_o hv) rfl ?_
    have hr_f_16v := cv_people hv hI
    refine pz_icmp_ge (off := 63) (t := 136) (by decide +kernel) (by decide) rfl rfl rfl (fun h1 => ?_) (fun h1 => ?_)
    · skip
      exact k_136_0 A x5 x6 hI (fun k n66 => (hF k n66)) (by omega)
    · skip
      refine pe_iload_n (j := 2) (by decide +kernel) rfl ?_
      refine pe_iload (j := 6) (by decide +kernel) rfl ?_
      refine pi_S (j := 73) (mj := 89) (by decide +kernel) (by decide +kernel) rfl ?_
      show pmE pg X pg_tyl pg_cl (d + 6) 89 0 [.int x2, .int x6] [] (cd f A R wr) _
      refine pe_iload_n (j := 0) (by decide +kernel) rfl ?_
      refine pe_iload_n (j := 1) (by decide +kernel) rfl ?_
      refine pw_shr (by decide +kernel) (fun z2 => ?_)
      refine pe_iconstv (n := 1) (v := 1) (by decide +kernel) (by decide +kernel) ?_
      refine pz_and1 (by decide +kernel) (fun z3 hz3 => ?_)
      refine pz_if_eq (off := 7) (t := 12) (by decide +kernel) (by decide) rfl rfl (fun h4 => ?_) (fun h4 => ?_)
      · skip
        refine pe_iconstv (n := 0) (v := 0) (by decide +kernel) (by decide +kernel) ?_
        refine pe_iret (by decide +kernel) rfl rfl ⟨rfl, rfl, ?_⟩
        show pmE pg X pg_tyl pg_cl (d + 7) 152 82 [.ref 55, .int 1, .int x2, .int x3, .int x4, .int x5, .int x6] [.int 0] (cd f A R wr) _
        refine pz_if_ne (off := 48) (t := 130) (by decide +kernel) (by decide) rfl kz_0 (fun h5 => by omega) (fun h5 => ?_)
        refine pe_aload_n (j := 0) (by decide +kernel) rfl ?_
        refine pe_get (j := 12) (ci := 6) (n := 0) (by decide +kernel) (by decide +kernel) cd_o55 rfl ?_
        refine pe_topV (v := .ref 33) (hR2) ?_
        refine pe_iload (j := 4) (by decide +kernel) rfl ?_
        refine pe_iload (j := 6) (by decide +kernel) rfl ?_
        refine pz_callV (j := 59) (mj := 77) (by decide +kernel) (cll_V (args := [.int x6, .int x4]) (n := 2) (by decide +kernel) rfl rfl cd_o33 (by decide +kernel) (Nat.le_of_ble_eq_true rfl) (Nat.le_of_ble_eq_true rfl)) (CM_77 hX hI hv (hR0) (by omega) (by omega)) (fun q6a q6b q6c q6d hqq6 => ?_)
        obtain ⟨rq6, eq6, kq6⟩ := hqq6
        cases eq6
        refine ⟨rfl, rfl, ?_⟩
        show pmE pg X pg_tyl pg_cl (d + 7) 152 96 [.ref 55, .int 1, .int x2, .int x3, .int x4, .int x5, .int x6] [.int rq6] (cd f A R wr) _
        refine pe_aload_n (j := 0) (by decide +kernel) rfl ?_
        refine pe_get (j := 53) (ci := 6) (n := 2) (by decide +kernel) (by decide +kernel) cd_o55 rfl ?_
        have lw8 := zi_lo rq6
        have uw8 := zi_hi rq6
        have lw9 := zi_lo (f 882)
        have uw9 := zi_hi (f 882)
        refine pz_icmp_lt (off := 30) (t := 130) (by decide +kernel) (by decide) rfl rfl rfl (fun h7 => ?_) (fun h7 => ?_)
        · skip
          refine pz_iinc (j := 6) (n := 1) (by decide +kernel) rfl rfl (by decide +kernel) (by omega) (by omega) (fun z10 hz10 => ?_)
          show pmE pg X pg_tyl pg_cl (d + 7) 152 133 [.ref 55, .int 1, .int x2, .int x3, .int x4, .int x5, .int z10] [] (cd f A R wr) _
          refine pe_goto (off := (-72)) (t := 61) (by decide +kernel) (by decide) rfl ?_
          exact ih A x5 z10 hI (fun k n66 => (hF k n66)) (by omega) (by omega)
        · skip
          refine pe_aload_n (j := 0) (by decide +kernel) rfl ?_
          refine pe_get (j := 22) (ci := 6) (n := 4) (by decide +kernel) (by decide +kernel) cd_o55 rfl ?_
          refine pe_iload_n (j := 1) (by decide +kernel) rfl ?_
          refine pe_iload (j := 6) (by decide +kernel) rfl ?_
          refine cz_st66 (by decide +kernel) hI kz_1 (by omega) (by omega) (by simp only [CT]; omega) (fun A11 eA11 hIA11 => ?_)
          refine pe_iload (j := 5) (by decide +kernel) rfl ?_
          refine pe_aload_n (j := 0) (by decide +kernel) rfl ?_
          refine pe_iload_n (j := 1) (by decide +kernel) rfl ?_
          refine pe_iconstv (n := 1) (v := 1) (by decide +kernel) (by decide +kernel) ?_
          refine pe_iadd (by decide +kernel) ?_
          refine pe_top (v := 2) (by decide +kernel) ?_
          refine pe_iload_n (j := 2) (by decide +kernel) rfl ?_
          refine pe_iconstv (n := 1) (v := 1) (by decide +kernel) (by decide +kernel) ?_
          refine pe_iload (j := 6) (by decide +kernel) rfl ?_
          refine pz_shl1 (by decide +kernel) rfl (by omega) (by omega) (fun z13 hz13 => ?_)
          refine pw_or (by decide +kernel) (fun z14 => ?_)
          refine pe_iload_n (j := 3) (by decide +kernel) rfl ?_
          refine pz_callS (j := 101) (mj := 152) (by decide +kernel) (by decide +kernel) rfl (CM_152_4 hX hIA11 hv (hR0) (hR2)) (fun q15a q15b q15c q15d hqq15 => ?_)
          obtain ⟨A16, rq15, eq15, hIq15, hFq15, kq15⟩ := hqq15
          cases eq15
          refine ⟨rfl, rfl, ?_⟩
          show pmE pg X pg_tyl pg_cl (d + 7) 152 127 [.ref 55, .int 1, .int x2, .int x3, .int x4, .int x5, .int x6] [.int rq15, .int x5] (cd f A16 R wr) _
          refine pw_add (by decide +kernel) (fun z17 => ?_)
          refine pe_istore (j := 5) (ls' := [.ref 55, .int 1, .int x2, .int x3, .int x4, .int z17, .int x6]) (by decide +kernel) (Nat.le_of_ble_eq_true rfl) rfl ?_
          refine pz_iinc (j := 6) (n := 1) (by decide +kernel) rfl rfl (by decide +kernel) (by omega) (by omega) (fun z18 hz18 => ?_)
          show pmE pg X pg_tyl pg_cl (d + 7) 152 133 [.ref 55, .int 1, .int x2, .int x3, .int x4, .int z17, .int z18] [] (cd f A16 R wr) _
          refine pe_goto (off := (-72)) (t := 61) (by decide +kernel) (by decide) rfl ?_
          exact ih A16 z17 z18 hIq15 (fun k n66 => ((hFq15 k n66)).trans ((upa_fr eA11 n66).trans ((hF k n66)))) (by omega) (by omega)
      · skip
        refine pe_iconstv (n := 1) (v := 1) (by decide +kernel) (by decide +kernel) ?_
        refine pe_goto (off := 4) (t := 13) (by decide +kernel) (by decide) rfl ?_
        refine pe_iret (by decide +kernel) rfl rfl ⟨rfl, rfl, ?_⟩
        show pmE pg X pg_tyl pg_cl (d + 7) 152 82 [.ref 55, .int 1, .int x2, .int x3, .int x4, .int x5, .int x6] [.int 1] (cd f A R wr) _
        refine pz_if_ne (off := 48) (t := 130) (by decide +kernel) (by decide) rfl kz_1 (fun h19 => ?_) (fun h19 => by omega)
        refine pz_iinc (j := 6) (n := 1) (by decide +kernel) rfl rfl (by decide +kernel) (by omega) (by omega) (fun z20 hz20 => ?_)
        show pmE pg X pg_tyl pg_cl (d + 7) 152 133 [.ref 55, .int 1, .int x2, .int x3, .int x4, .int x5, .int z20] [] (cd f A R wr) _
        refine pe_goto (off := (-72)) (t := 61) (by decide +kernel) (by decide) rfl ?_
        exact ih A x5 z20 hI (fun k n66 => (hF k n66)) (by omega) (by omega)
set_option maxRecDepth 100000 in
set_option maxHeartbeats 8000000 in
theorem CM_152_5 {X : pm_X} {d : Nat} {wr : pm_W} {f : Nat → Int32} {A : Nat → List Int32} {R : Nat → Value} {x2 x3 : Int32} {v : Nat} (hX : XO X) (hI : CI f A R) (hv : VV v) (hR0 : R 0 = .ref v) (hR2 : R 2 = .ref 33) : pmE pg X pg_tyl pg_cl (d + 7) 152 0 (pm_ent (pm_max pg 152) [.ref 55, .int 1, .int x2, .int x3]) [] (cd f A R wr) (fun q => ∃ (A' : Nat → List Int32) (r : Int32), q = (some (.int r), cd f A' R wr, 0, 0) ∧ CI f A' R ∧ (∀ k : Nat, k ≠ 66 → A' k = A k) ∧ ((True ∧ True))) := by
  have bv := VV_b hv
  show pmE pg X pg_tyl pg_cl (d + 7) 152 0 [.ref 55, .int 1, .int x2, .int x3, pm_dead, pm_dead, pm_dead] [] (cd f A R wr) _
  refine pe_aload_n (j := 0) (by decide +kernel) rfl ?_
  refine pe_get (j := 22) (ci := 6) (n := 4) (by decide +kernel) (by decide +kernel) cd_o55 rfl ?_
  refine pe_iload_n (j := 1) (by decide +kernel) rfl ?_
  refine pe_iconstv (n := 1) (v := 1) (by decide +kernel) (by decide +kernel) ?_
  refine pe_isub (by decide +kernel) ?_
  refine pe_top (v := 0) (by decide +kernel) ?_
  refine pz_iald (by decide +kernel) cd_a66 (cl_66 hI) kz_0 (by omega) (by omega) (fun v2 ev2 => ?_)
  have rv2 : 0 ≤ v2.toInt ∧ v2.toInt ≤ 8 := ct_66 hI ev2
  refine pe_istore (j := 4) (ls' := [.ref 55, .int 1, .int x2, .int x3, .int v2, pm_dead, pm_dead]) (by decide +kernel) (Nat.le_of_ble_eq_true rfl) rfl ?_
  refine pe_iload_n (j := 1) (by decide +kernel) rfl ?_
  refine pe_iconstv (n := 2) (v := 2) (by decide +kernel) (by decide +kernel) ?_
  refine pz_icmp_lt (off := 29) (t := 41) (by decide +kernel) (by decide) rfl kz_1 kz_2 (fun h3 => ?_) (fun h3 => by omega)
  refine pe_iconstv (n := 0) (v := 0) (by decide +kernel) (by decide +kernel) ?_
  refine pe_istore (j := 5) (ls' := [.ref 55, .int 1, .int x2, .int x3, .int v2, .int 0, pm_dead]) (by decide +kernel) (Nat.le_of_ble_eq_true rfl) rfl ?_
  refine pe_iload_n (j := 1) (by decide +kernel) rfl ?_
  refine pe_iload_n (j := 3) (by decide +kernel) rfl ?_
  have lw5 := zi_lo x3
  have uw5 := zi_hi x3
  refine pz_icmp_ge (off := 9) (t := 55) (by decide +kernel) (by decide) rfl kz_1 rfl (fun h4 => ?_) (fun h4 => ?_)
  · skip
    refine pe_iload (j := 5) (by decide +kernel) rfl ?_
    exact pe_iret (by decide +kernel) rfl rfl ⟨A, 0, rfl, hI, (fun k n66 => rfl), ⟨trivial, trivial⟩⟩
  · skip
    refine pe_iload_n (j := 1) (by decide +kernel) rfl ?_
    refine pe_bipushv (n := 6) (v := 6) (by decide +kernel) (by decide +kernel) ?_
    refine pz_icmp_lt (off := 6) (t := 58) (by decide +kernel) (by decide) rfl kz_1 kz_6 (fun h6 => ?_) (fun h6 => by omega)
    refine pe_iconstv (n := 0) (v := 0) (by decide +kernel) (by decide +kernel) ?_
    refine pe_istore (j := 6) (ls' := [.ref 55, .int 1, .int x2, .int x3, .int v2, .int 0, .int 0]) (by decide +kernel) (Nat.le_of_ble_eq_true rfl) rfl ?_
    refine CL_152_5_61 hX hv (hR0) (hR2) (by omega) (by omega) (fun A7 y8 y9 hIy10 hFA7 gy9 => ?_) 10 A 0 0 hI (fun k _ => rfl) (by decide +kernel) (by decide +kernel)
    refine pe_iload (j := 5) (by decide +kernel) rfl ?_
    exact pe_iret (by decide +kernel) rfl rfl ⟨A7, y8, rfl, hIy10, (fun k n66 => (hFA7 k n66)), ⟨trivial, trivial⟩⟩
set_option maxRecDepth 100000 in
set_option maxHeartbeats 8000000 in
theorem CM_151 {X : pm_X} {d : Nat} {wr : pm_W} {f : Nat → Int32} {A : Nat → List Int32} {R : Nat → Value} {x2 x3 x4 : Int32} {v : Nat} (hX : XO X) (hI : CI f A R) (hv : VV v) (hR0 : R 0 = .ref v) (gx2 : (0 ≤ x2.toInt ∧ x2.toInt ≤ 8)) : pmE pg X pg_tyl pg_cl (d + 8) 151 0 (pm_ent (pm_max pg 151) [.ref 55, .ref 33, .int x2, .int x3, .int x4]) [] (cd f A R wr) (fun q => ∃ (f' : Nat → Int32) (A' : Nat → List Int32) (R' : Nat → Value) (r : Int32), q = (some (.int r), cd f' A' R' wr, 0, 0) ∧ CI f' A' R' ∧ (∀ k : Nat, k ≠ 882 → f' k = f k) ∧ (∀ k : Nat, k ≠ 66 → A' k = A k) ∧ (∀ k : Nat, k ≠ 2 → R' k = R k) ∧ ((True ∧ True))) := by
  have bv := VV_b hv
  show pmE pg X pg_tyl pg_cl (d + 8) 151 0 [.ref 55, .ref 33, .int x2, .int x3, .int x4] [] (cd f A R wr) _
  refine pe_aload_n (j := 0) (by decide +kernel) rfl ?_
  refine pe_aload_n (j := 1) (by decide +kernel) rfl ?_
  refine cz_putR2 (jj := 12) (ty := (.object "RingVillage$State")) (by decide +kernel) (by decide +kernel) hI pm_fit_obj ⟨_, rfl⟩ (fun R1 eR1 hIR1 => ?_)
  refine pe_aload_n (j := 0) (by decide +kernel) rfl ?_
  refine pe_iload (j := 4) (by decide +kernel) rfl ?_
  refine cz_put882 (jj := 53) (by decide +kernel) (by decide +kernel) hIR1 (fun f2 ef2 hIf2 => ?_)
  refine pe_aload_n (j := 0) (by decide +kernel) rfl ?_
  refine pe_get (j := 22) (ci := 6) (n := 4) (by decide +kernel) (by decide +kernel) cd_o55 rfl ?_
  refine pe_iconstv (n := 0) (v := 0) (by decide +kernel) (by decide +kernel) ?_
  refine pe_iload_n (j := 2) (by decide +kernel) rfl ?_
  refine cz_st66 (by decide +kernel) hIf2 kz_0 (by omega) (by omega) (by simp only [CT]; omega) (fun A3 eA3 hIA3 => ?_)
  refine pe_aload_n (j := 0) (by decide +kernel) rfl ?_
  refine pe_iconstv (n := 1) (v := 1) (by decide +kernel) (by decide +kernel) ?_
  refine pe_iconstv (n := 1) (v := 1) (by decide +kernel) (by decide +kernel) ?_
  refine pe_iload_n (j := 2) (by decide +kernel) rfl ?_
  refine pz_shl1 (by decide +kernel) rfl (by omega) (by omega) (fun z4 hz4 => ?_)
  refine pe_iload_n (j := 3) (by decide +kernel) rfl ?_
  refine pz_callS (j := 101) (mj := 152) (by decide +kernel) (by decide +kernel) rfl (CM_152_5 hX hIA3 hv ((upr_fr eR1 (by decide)).trans (hR0)) (upr_at eR1)) (fun q5a q5b q5c q5d hqq5 => ?_)
  obtain ⟨A6, rq5, eq5, hIq5, hFq5, kq5⟩ := hqq5
  cases eq5
  refine ⟨rfl, rfl, ?_⟩
  show pmE pg X pg_tyl pg_cl (d + 8) 151 27 [.ref 55, .ref 33, .int x2, .int x3, .int x4] [.int rq5] (cd f2 A6 R1 wr) _
  exact pe_iret (by decide +kernel) rfl rfl ⟨f2, A6, R1, rq5, rfl, hIq5, (fun k n882 => upf_fr ef2 n882), (fun k n66 => ((hFq5 k n66)).trans (upa_fr eA3 n66)), (fun k n2 => upr_fr eR1 n2), ⟨trivial, trivial⟩⟩
set_option maxRecDepth 100000 in
set_option maxHeartbeats 8000000 in
theorem CL_157_3 {X : pm_X} {d : Nat} {wr : pm_W} {Q : pm_R → Prop} {f : Nat → Int32} {A0 : Nat → List Int32} {R : Nat → Value} {x3 : Int32} {v : Nat} (hX : XO X) (hv : VV v) (k_46_0 : ∀ (A' : Nat → List Int32) (y4 : Int32) (v5 : Value), CI f A' R → (∀ k : Nat, k ≠ 84 → A' k = A0 k) → (2 ≤ y4.toInt ∧ y4.toInt ≤ 6) → pmE pg X pg_tyl pg_cl (d) 157 46 [.ref 83, .ref v, .ref 55, .int x3, .int y4, v5] [] (cd f A' R wr) Q) : ∀ (m : Nat) (A : Nat → List Int32) (x4 : Int32) (u5 : Value), CI f A R → (∀ k : Nat, k ≠ 84 → A k = A0 k) → (2 ≤ x4.toInt ∧ x4.toInt ≤ 6) → 6 - x4.toInt < (m : Int) → pmE pg X pg_tyl pg_cl (d) 157 3 [.ref 83, .ref v, .ref 55, .int x3, .int x4, u5] [] (cd f A R wr) Q := by
  have bv := VV_b hv
  intro m
  induction m with
  | zero =>
    intro A x4 u5 hI hF gx4 hm
    exfalso
    have l0 := zi_lo x4
    have u0 := zi_hi x4
    omega
  | succ m ih =>
    intro A x4 u5 hI hF gx4 hm
    refine pe_iload (j := 4) (by decide +kernel) rfl ?_
    refine pe_aload_n (j := 2) (by decide +kernel) rfl ?_
    refine pe_get (j := 52) (ci := 6) (n := 6) (by decide +kernel) (by decide +kernel) cd_o55 rfl ?_
    have hr_f_886 := cf_886 hI
    refine pz_icmp_ge (off := 37) (t := 46) (by decide +kernel) (by decide) rfl rfl rfl (fun h1 => ?_) (fun h1 => ?_)
    · skip
      exact k_46_0 A x4 (u5) hI (fun k n84 => (hF k n84)) (by omega)
    · skip
      refine pe_aload_n (j := 2) (by decide +kernel) rfl ?_
      refine pe_get (j := 49) (ci := 6) (n := 5) (by decide +kernel) (by decide +kernel) cd_o55 rfl ?_
      refine pe_iload (j := 4) (by decide +kernel) rfl ?_
      refine pz_iald (by decide +kernel) cd_a67 (cl_67 hI) rfl (by omega) (by omega) (fun v2 ev2 => ?_)
      have rv2 : 0 ≤ v2.toInt ∧ v2.toInt ≤ 8 := ct_67 hI ev2
      rw [show A 67 = A0 67 from (hF 67 (by decide))] at ev2
      refine pe_istore (j := 5) (ls' := [.ref 83, .ref v, .ref 55, .int x3, .int x4, .int v2]) (by decide +kernel) (Nat.le_of_ble_eq_true rfl) rfl ?_
      refine pe_aload_n (j := 0) (by decide +kernel) rfl ?_
      refine pe_get (j := 9) (ci := 3) (n := 2) (by decide +kernel) (by decide +kernel) cd_o83 rfl ?_
      refine pe_iload (j := 5) (by decide +kernel) rfl ?_
      refine pe_dup2 (by decide +kernel) ⟨rfl, rfl⟩ ?_
      refine pz_iald (by decide +kernel) cd_a84 (cl_84 hI) rfl (by omega) (by omega) (fun v3 ev3 => ?_)
      refine pe_aload_n (j := 1) (by decide +kernel) rfl ?_
      refine pe_get (j := 63) (ci := 9) (n := 4) (by decide +kernel) (by decide +kernel) (cv_o hv) rfl ?_
      refine pe_iload (j := 5) (by decide +kernel) rfl ?_
      refine pz_iald (by decide +kernel) (cv_a2 hv) (cv_l2 hv hI) rfl (by omega) (by omega) (fun v4 ev4 => ?_)
      rw [show A (v + 2) = A0 (v + 2) from (hF (v + 2) (by omega))] at ev4
      refine pe_iload_n (j := 3) (by decide +kernel) rfl ?_
      refine pw_mul (by decide +kernel) (fun z5 => ?_)
      refine pw_add (by decide +kernel) (fun z6 => ?_)
      refine cz_st84 (by decide +kernel) hI rfl (by omega) (by omega) (fun A7 eA7 hIA7 => ?_)
      refine pz_iinc (j := 4) (n := 1) (by decide +kernel) rfl rfl (by decide +kernel) (by omega) (by omega) (fun z8 hz8 => ?_)
      show pmE pg X pg_tyl pg_cl (d) 157 43 [.ref 83, .ref v, .ref 55, .int x3, .int z8, .int v2] [] (cd f A7 R wr) _
      refine pe_goto (off := (-40)) (t := 3) (by decide +kernel) (by decide) rfl ?_
      exact ih A7 z8 (.int v2) hIA7 (fun k n84 => (upa_fr eA7 n84).trans ((hF k n84))) (by omega) (by omega)
set_option maxRecDepth 100000 in
set_option maxHeartbeats 8000000 in
theorem CM_157 {X : pm_X} {d : Nat} {wr : pm_W} {f : Nat → Int32} {A : Nat → List Int32} {R : Nat → Value} {x3 : Int32} {v : Nat} (hX : XO X) (hI : CI f A R) (hv : VV v) : pmE pg X pg_tyl pg_cl (d) 157 0 (pm_ent (pm_max pg 157) [.ref 83, .ref v, .ref 55, .int x3]) [] (cd f A R wr) (fun q => ∃ (A' : Nat → List Int32), q = (none, cd f A' R wr, 0, 0) ∧ CI f A' R ∧ (∀ k : Nat, k ≠ 84 → A' k = A k) ∧ ((True))) := by
  have bv := VV_b hv
  show pmE pg X pg_tyl pg_cl (d) 157 0 [.ref 83, .ref v, .ref 55, .int x3, pm_dead, pm_dead] [] (cd f A R wr) _
  refine pe_iconstv (n := 2) (v := 2) (by decide +kernel) (by decide +kernel) ?_
  refine pe_istore (j := 4) (ls' := [.ref 83, .ref v, .ref 55, .int x3, .int 2, pm_dead]) (by decide +kernel) (Nat.le_of_ble_eq_true rfl) rfl ?_
  refine CL_157_3 hX hv (fun A1 y2 u3 hIy4 hFA1 gy2 => ?_) 5 A 2 (pm_dead) hI (fun k _ => rfl) (by decide +kernel) (by decide +kernel)
  exact pe_vret (by decide +kernel) rfl ⟨A1, rfl, hIy4, (fun k n84 => (hFA1 k n84)), trivial⟩
set_option maxRecDepth 100000 in
set_option maxHeartbeats 8000000 in
theorem CL_156_27 {X : pm_X} {d : Nat} {wr : pm_W} {Q : pm_R → Prop} {f0 : Nat → Int32} {A0 : Nat → List Int32} {R0 : Nat → Value} {x3 : Int32} {v : Nat} (hX : XO X) (hv : VV v) (hR0 : R0 0 = .ref v) (k_119_0 : ∀ (f' : Nat → Int32) (A' : Nat → List Int32) (R' : Nat → Value) (y5 : Int32) (v6 : Value), CI f' A' R' → (∀ k : Nat, k ≠ 530 → k ≠ 881 → k ≠ 882 → k ≠ 886 → k ≠ 887 → k ≠ 1328 → k ≠ 1329 → f' k = f0 k) → (∀ k : Nat, k ≠ 39 → k ≠ 40 → k ≠ 65 → k ≠ 66 → k ≠ 67 → k ≠ 84 → A' k = A0 k) → (∀ k : Nat, k ≠ 2 → k ≠ 5 → R' k = R0 k) → (0 ≤ y5.toInt ∧ y5.toInt ≤ 7) → pmE pg X pg_tyl pg_cl (d + 10) 156 119 [.ref 83, .ref 33, .ref 55, .int x3, .ref v, .int y5, v6] [] (cd f' A' R' wr) Q) : ∀ (m : Nat) (f : Nat → Int32) (A : Nat → List Int32) (R : Nat → Value) (x5 : Int32) (u6 : Value), CI f A R → (∀ k : Nat, k ≠ 530 → k ≠ 881 → k ≠ 882 → k ≠ 886 → k ≠ 887 → k ≠ 1328 → k ≠ 1329 → f k = f0 k) → (∀ k : Nat, k ≠ 39 → k ≠ 40 → k ≠ 65 → k ≠ 66 → k ≠ 67 → k ≠ 84 → A k = A0 k) → (∀ k : Nat, k ≠ 2 → k ≠ 5 → R k = R0 k) → (0 ≤ x5.toInt ∧ x5.toInt ≤ 7) → 7 - x5.toInt < (m : Int) → pmE pg X pg_tyl pg_cl (d + 10) 156 27 [.ref 83, .ref 33, .ref 55, .int x3, .ref v, .int x5, u6] [] (cd f A R wr) Q := by
  have bv := VV_b hv
  intro m
  induction m with
  | zero =>
    intro f A R x5 u6 hI hG hF hH gx5 hm
    exfalso
    have l0 := zi_lo x5
    have u0 := zi_hi x5
    omega
  | succ m ih =>
    intro f A R x5 u6 hI hG hF hH gx5 hm
    refine pe_iload (j := 5) (by decide +kernel) rfl ?_
    refine pe_aload (j := 4) (by decide +kernel) rfl ?_
    refine pe_get (j := 34) (ci := 9) (n := 2) (by decide +kernel) (by decide +kernel) (cv_o hv) rfl ?_
    have hr_f_16v2 := cv_wants hv hI
    refine pz_icmp_ge (off := 85) (t := 119) (by decide +kernel) (by decide) rfl rfl rfl (fun h1 => ?_) (fun h1 => ?_)
    · skip
      exact k_119_0 f A R x5 (u6) hI (fun k n530 n881 n882 n886 n887 n1328 n1329 => (hG k n530 n881 n882 n886 n887 n1328 n1329)) (fun k n39 n40 n65 n66 n67 n84 => (hF k n39 n40 n65 n66 n67 n84)) (fun k n2 n5 => (hH k n2 n5)) (by omega)
    · skip
      refine pe_aload (j := 4) (by decide +kernel) rfl ?_
      refine pe_iload (j := 5) (by decide +kernel) rfl ?_
      refine pe_iconstv (n := 2) (v := 2) (by decide +kernel) (by decide +kernel) ?_
      refine pi_V (j := 39) (mj := 65) (by decide +kernel) (cll_V (args := [.int 2, .int x5]) (n := 2) (by decide +kernel) rfl rfl (cv_o hv) (by decide +kernel) (Nat.le_of_ble_eq_true rfl) (Nat.le_of_ble_eq_true rfl)) ?_
      show pmE pg X pg_tyl pg_cl (d + 9) 65 0 [.ref v, .int x5, .int 2] [] (cd f A R wr) _
      refine pe_aload_n (j := 0) (by decide +kernel) rfl ?_
      refine pe_get (j := 25) (ci := 9) (n := 6) (by decide +kernel) (by decide +kernel) (cv_o hv) rfl ?_
      refine pe_iload_n (j := 1) (by decide +kernel) rfl ?_
      refine pe_iconstv (n := 4) (v := 4) (by decide +kernel) (by decide +kernel) ?_
      refine pz_mul (by decide +kernel) rfl kz_4 (by omega) (by omega) (fun z2 hz2 => ?_)
      refine pe_iload_n (j := 2) (by decide +kernel) rfl ?_
      refine pz_add (by decide +kernel) hz2 kz_2 (by omega) (by omega) (fun z3 hz3 => ?_)
      clear hz2
      refine pz_iald (by decide +kernel) (cv_a4 hv) (cv_l4 hv hI) hz3 (by omega) (by omega) (fun v4 ev4 => ?_)
      rw [show A (v + 4) = A0 (v + 4) from (hF (v + 4) (by omega) (by omega) (by omega) (by omega) (by omega) (by omega))] at ev4
      clear hz3
      refine pe_iret (by decide +kernel) rfl rfl ⟨rfl, rfl, ?_⟩
      show pmE pg X pg_tyl pg_cl (d + 10) 156 45 [.ref 83, .ref 33, .ref 55, .int x3, .ref v, .int x5, u6] [.int v4] (cd f A R wr) _
      refine pe_istore (j := 6) (ls' := [.ref 83, .ref 33, .ref 55, .int x3, .ref v, .int x5, .int v4]) (by decide +kernel) (Nat.le_of_ble_eq_true rfl) rfl ?_
      refine pe_aload_n (j := 2) (by decide +kernel) rfl ?_
      refine pe_aload_n (j := 1) (by decide +kernel) rfl ?_
      refine pe_iload (j := 5) (by decide +kernel) rfl ?_
      refine pe_iload_n (j := 3) (by decide +kernel) rfl ?_
      refine pz_callV (j := 43) (mj := 133) (by decide +kernel) (cll_V (args := [.int x3, .int x5, .ref 33]) (n := 3) (by decide +kernel) rfl rfl cd_o55 (by decide +kernel) (Nat.le_of_ble_eq_true rfl) (Nat.le_of_ble_eq_true rfl)) (CM_133 hX hI hv (((hH 0 (by decide) (by decide))).trans (hR0)) (by omega)) (fun q5a q5b q5c q5d hqq5 => ?_)
      obtain ⟨f6, A7, R8, rq5, eq5, hIq5, hGq5, hFq5, hHq5, kq5⟩ := hqq5
      cases eq5
      refine ⟨rfl, rfl, ?_⟩
      rcases kq5 with kq5 | kq5
      · skip
        obtain ⟨erq5, kq5⟩ := kq5
        subst erq5
        show pmE pg X pg_tyl pg_cl (d + 10) 156 55 [.ref 83, .ref 33, .ref 55, .int x3, .ref v, .int x5, .int v4] [.int 0] (cd f6 A7 R8 wr) _
        refine pz_if_eq (off := 58) (t := 113) (by decide +kernel) (by decide) rfl kz_0 (fun h9 => ?_) (fun h9 => by omega)
        refine pz_iinc (j := 5) (n := 1) (by decide +kernel) rfl rfl (by decide +kernel) (by omega) (by omega) (fun z10 hz10 => ?_)
        show pmE pg X pg_tyl pg_cl (d + 10) 156 116 [.ref 83, .ref 33, .ref 55, .int x3, .ref v, .int z10, .int v4] [] (cd f6 A7 R8 wr) _
        refine pe_goto (off := (-89)) (t := 27) (by decide +kernel) (by decide) rfl ?_
        exact ih f6 A7 R8 z10 (.int v4) hIq5 (fun k n530 n881 n882 n886 n887 n1328 n1329 => ((hGq5 k n881 n882 n886 n887)).trans ((hG k n530 n881 n882 n886 n887 n1328 n1329))) (fun k n39 n40 n65 n66 n67 n84 => ((hFq5 k n65 n66 n67)).trans ((hF k n39 n40 n65 n66 n67 n84))) (fun k n2 n5 => ((hHq5 k n2 n5)).trans ((hH k n2 n5))) (by omega) (by omega)
      · skip
        obtain ⟨erq5, kq5⟩ := kq5
        subst erq5
        show pmE pg X pg_tyl pg_cl (d + 10) 156 55 [.ref 83, .ref 33, .ref 55, .int x3, .ref v, .int x5, .int v4] [.int 1] (cd f6 A7 R8 wr) _
        refine pz_if_eq (off := 58) (t := 113) (by decide +kernel) (by decide) rfl kz_1 (fun h11 => by omega) (fun h11 => ?_)
        refine pe_aload_n (j := 1) (by decide +kernel) rfl ?_
        refine pe_aload_n (j := 2) (by decide +kernel) rfl ?_
        refine pe_get (j := 49) (ci := 6) (n := 5) (by decide +kernel) (by decide +kernel) cd_o55 rfl ?_
        refine pe_aload_n (j := 2) (by decide +kernel) rfl ?_
        refine pe_get (j := 52) (ci := 6) (n := 6) (by decide +kernel) (by decide +kernel) cd_o55 rfl ?_
        have hr_f6_886 := cf_886 hIq5
        refine pe_iload (j := 6) (by decide +kernel) rfl ?_
        refine pe_bipushv (n := 99) (v := 99) (by decide +kernel) (by decide +kernel) ?_
        refine pz_callV (j := 55) (mj := 81) (by decide +kernel) (cll_V (args := [.int 99, .int v4, .int (f6 886), .ref 67]) (n := 4) (by decide +kernel) rfl rfl cd_o33 (by decide +kernel) (Nat.le_of_ble_eq_true rfl) (Nat.le_of_ble_eq_true rfl)) (CM_81_1 hX hIq5 (by omega)) (fun q12a q12b q12c q12d hqq12 => ?_)
        obtain ⟨f13, A14, eq12, hIq12, hGq12, hFq12, kq12⟩ := hqq12
        cases eq12
        refine ⟨rfl, rfl, ?_⟩
        show pmE pg X pg_tyl pg_cl (d + 10) 156 74 [.ref 83, .ref 33, .ref 55, .int x3, .ref v, .int x5, .int v4] [] (cd f13 A14 R8 wr) _
        refine pe_aload_n (j := 0) (by decide +kernel) rfl ?_
        refine pe_dup (by decide +kernel) rfl ?_
        refine pe_get (j := 21) (ci := 3) (n := 0) (by decide +kernel) (by decide +kernel) cd_o83 rfl ?_
        refine pe_top (v := (f 1328)) (((hGq12 1328 (by decide))).trans ((hGq5 1328 (by decide) (by decide) (by decide) (by decide)))) ?_
        refine pe_iconstv (n := 1) (v := 1) (by decide +kernel) (by decide +kernel) ?_
        refine pe_iload (j := 5) (by decide +kernel) rfl ?_
        refine pz_shl6 (by decide +kernel) rfl (by omega) (by omega) (fun z15 hz15 => ?_)
        refine pw_or (by decide +kernel) (fun z16 => ?_)
        refine cz_put1328 (jj := 21) (by decide +kernel) (by decide +kernel) hIq12 (fun f17 ef17 hIf17 => ?_)
        refine pe_aload_n (j := 0) (by decide +kernel) rfl ?_
        refine pe_dup (by decide +kernel) rfl ?_
        refine pe_get (j := 25) (ci := 3) (n := 1) (by decide +kernel) (by decide +kernel) cd_o83 rfl ?_
        refine pe_top (v := (f 1329)) ((upf_fr ef17 (by decide)).trans (((hGq12 1329 (by decide))).trans ((hGq5 1329 (by decide) (by decide) (by decide) (by decide))))) ?_
        refine pe_aload (j := 4) (by decide +kernel) rfl ?_
        refine pe_iload (j := 5) (by decide +kernel) rfl ?_
        refine pe_iconstv (n := 3) (v := 3) (by decide +kernel) (by decide +kernel) ?_
        refine pi_V (j := 39) (mj := 65) (by decide +kernel) (cll_V (args := [.int 3, .int x5]) (n := 2) (by decide +kernel) rfl rfl (cv_o hv) (by decide +kernel) (Nat.le_of_ble_eq_true rfl) (Nat.le_of_ble_eq_true rfl)) ?_
        show pmE pg X pg_tyl pg_cl (d + 9) 65 0 [.ref v, .int x5, .int 3] [] (cd f17 A14 R8 wr) _
        refine pe_aload_n (j := 0) (by decide +kernel) rfl ?_
        refine pe_get (j := 25) (ci := 9) (n := 6) (by decide +kernel) (by decide +kernel) (cv_o hv) rfl ?_
        refine pe_iload_n (j := 1) (by decide +kernel) rfl ?_
        refine pe_iconstv (n := 4) (v := 4) (by decide +kernel) (by decide +kernel) ?_
        refine pz_mul (by decide +kernel) rfl kz_4 (by omega) (by omega) (fun z18 hz18 => ?_)
        refine pe_iload_n (j := 2) (by decide +kernel) rfl ?_
        refine pz_add (by decide +kernel) hz18 kz_3 (by omega) (by omega) (fun z19 hz19 => ?_)
        clear hz18
        refine pz_iald (by decide +kernel) (cv_a4 hv) (cv_l4 hv hIf17) hz19 (by omega) (by omega) (fun v20 ev20 => ?_)
        rw [show A14 (v + 4) = A0 (v + 4) from ((hFq12 (v + 4) (by omega) (by omega))).trans (((hFq5 (v + 4) (by omega) (by omega) (by omega))).trans ((hF (v + 4) (by omega) (by omega) (by omega) (by omega) (by omega) (by omega))))] at ev20
        clear hz19
        refine pe_iret (by decide +kernel) rfl rfl ⟨rfl, rfl, ?_⟩
        show pmE pg X pg_tyl pg_cl (d + 10) 156 100 [.ref 83, .ref 33, .ref 55, .int x3, .ref v, .int x5, .int v4] [.int v20, .int (f 1329), .ref 83] (cd f17 A14 R8 wr) _
        refine pw_add (by decide +kernel) (fun z21 => ?_)
        refine cz_put1329 (jj := 25) (by decide +kernel) (by decide +kernel) hIf17 (fun f22 ef22 hIf22 => ?_)
        refine pe_aload_n (j := 0) (by decide +kernel) rfl ?_
        refine pe_aload (j := 4) (by decide +kernel) rfl ?_
        refine pe_aload_n (j := 2) (by decide +kernel) rfl ?_
        refine pe_iload (j := 6) (by decide +kernel) rfl ?_
        refine pz_callV (j := 59) (mj := 157) (by decide +kernel) (cll_V (args := [.int v4, .ref 55, .ref v]) (n := 3) (by decide +kernel) rfl rfl cd_o83 (by decide +kernel) (Nat.le_of_ble_eq_true rfl) (Nat.le_of_ble_eq_true rfl)) (CM_157 hX hIf22 hv) (fun q23a q23b q23c q23d hqq23 => ?_)
        obtain ⟨A24, eq23, hIq23, hFq23, kq23⟩ := hqq23
        cases eq23
        refine ⟨rfl, rfl, ?_⟩
        show pmE pg X pg_tyl pg_cl (d + 10) 156 113 [.ref 83, .ref 33, .ref 55, .int x3, .ref v, .int x5, .int v4] [] (cd f22 A24 R8 wr) _
        refine pz_iinc (j := 5) (n := 1) (by decide +kernel) rfl rfl (by decide +kernel) (by omega) (by omega) (fun z25 hz25 => ?_)
        show pmE pg X pg_tyl pg_cl (d + 10) 156 116 [.ref 83, .ref 33, .ref 55, .int x3, .ref v, .int z25, .int v4] [] (cd f22 A24 R8 wr) _
        refine pe_goto (off := (-89)) (t := 27) (by decide +kernel) (by decide) rfl ?_
        exact ih f22 A24 R8 z25 (.int v4) hIq23 (fun k n530 n881 n882 n886 n887 n1328 n1329 => (upf_fr ef22 n1329).trans ((upf_fr ef17 n1328).trans (((hGq12 k n530)).trans (((hGq5 k n881 n882 n886 n887)).trans ((hG k n530 n881 n882 n886 n887 n1328 n1329)))))) (fun k n39 n40 n65 n66 n67 n84 => ((hFq23 k n84)).trans (((hFq12 k n39 n40)).trans (((hFq5 k n65 n66 n67)).trans ((hF k n39 n40 n65 n66 n67 n84))))) (fun k n2 n5 => ((hHq5 k n2 n5)).trans ((hH k n2 n5))) (by omega) (by omega)
set_option maxRecDepth 100000 in
set_option maxHeartbeats 8000000 in
theorem CM_156 {X : pm_X} {d : Nat} {wr : pm_W} {f : Nat → Int32} {A : Nat → List Int32} {R : Nat → Value} {x3 : Int32} {v : Nat} (hX : XO X) (hI : CI f A R) (hv : VV v) (hR0 : R 0 = .ref v) : pmE pg X pg_tyl pg_cl (d + 10) 156 0 (pm_ent (pm_max pg 156) [.ref 83, .ref 33, .ref 55, .int x3]) [] (cd f A R wr) (fun q => ∃ (f' : Nat → Int32) (A' : Nat → List Int32) (R' : Nat → Value), q = (none, cd f' A' R' wr, 0, 0) ∧ CI f' A' R' ∧ (∀ k : Nat, k ≠ 530 → k ≠ 881 → k ≠ 882 → k ≠ 886 → k ≠ 887 → k ≠ 1328 → k ≠ 1329 → f' k = f k) ∧ (∀ k : Nat, k ≠ 39 → k ≠ 40 → k ≠ 65 → k ≠ 66 → k ≠ 67 → k ≠ 84 → A' k = A k) ∧ (∀ k : Nat, k ≠ 2 → k ≠ 5 → R' k = R k) ∧ ((True))) := by
  have bv := VV_b hv
  show pmE pg X pg_tyl pg_cl (d + 10) 156 0 [.ref 83, .ref 33, .ref 55, .int x3, pm_dead, pm_dead, pm_dead] [] (cd f A R wr) _
  refine pe_aload_n (j := 1) (by decide +kernel) rfl ?_
  refine pe_get (j := 15) (ci := 7) (n := 0) (by decide +kernel) (by decide +kernel) cd_o33 rfl ?_
  refine pe_topV (v := .ref v) (hR0) ?_
  refine pe_astore (j := 4) (ls' := [.ref 83, .ref 33, .ref 55, .int x3, .ref v, pm_dead, pm_dead]) (by decide +kernel) (Nat.le_of_ble_eq_true rfl) rfl ?_
  refine pe_aload_n (j := 0) (by decide +kernel) rfl ?_
  refine pe_iconstv (n := 0) (v := 0) (by decide +kernel) (by decide +kernel) ?_
  refine cz_put1328 (jj := 21) (by decide +kernel) (by decide +kernel) hI (fun f1 ef1 hIf1 => ?_)
  refine pe_aload_n (j := 0) (by decide +kernel) rfl ?_
  refine pe_iconstv (n := 0) (v := 0) (by decide +kernel) (by decide +kernel) ?_
  refine cz_put1329 (jj := 25) (by decide +kernel) (by decide +kernel) hIf1 (fun f2 ef2 hIf2 => ?_)
  refine pe_aload_n (j := 0) (by decide +kernel) rfl ?_
  refine pe_get (j := 9) (ci := 3) (n := 2) (by decide +kernel) (by decide +kernel) cd_o83 rfl ?_
  refine pe_iconstv (n := 0) (v := 0) (by decide +kernel) (by decide +kernel) ?_
  refine cz_fill (j := 28) (k := 84) (n := 9) (by decide +kernel) (by decide +kernel) rfl cd_a84 (fun _ => cd_s84) hIf2 (cl_84 hIf2) (by decide +kernel) (ct_no (by decide +kernel)) (fun A3 eA3 hIA3 => ?_)
  refine pe_iconstv (n := 0) (v := 0) (by decide +kernel) (by decide +kernel) ?_
  refine pe_istore (j := 5) (ls' := [.ref 83, .ref 33, .ref 55, .int x3, .ref v, .int 0, pm_dead]) (by decide +kernel) (Nat.le_of_ble_eq_true rfl) rfl ?_
  refine CL_156_27 hX hv (hR0) (fun f4 A5 R6 y7 u8 hIy9 hGf4 hFA5 hHR6 gy7 => ?_) 8 f2 A3 R 0 (pm_dead) hIA3 (fun k _ _ _ _ _ _ _ => rfl) (fun k _ _ _ _ _ _ => rfl) (fun k _ _ => rfl) (by decide +kernel) (by decide +kernel)
  exact pe_vret (by decide +kernel) rfl ⟨f4, A5, R6, rfl, hIy9, (fun k n530 n881 n882 n886 n887 n1328 n1329 => ((hGf4 k n530 n881 n882 n886 n887 n1328 n1329)).trans ((upf_fr ef2 n1329).trans (upf_fr ef1 n1328))), (fun k n39 n40 n65 n66 n67 n84 => ((hFA5 k n39 n40 n65 n66 n67 n84)).trans (upa_fr eA3 n84)), (fun k n2 n5 => (hHR6 k n2 n5)), trivial⟩
set_option maxRecDepth 100000 in
set_option maxHeartbeats 8000000 in
theorem CL_128_2 {X : pm_X} {d : Nat} {wr : pm_W} {Q : pm_R → Prop} {f0 : Nat → Int32} {A0 : Nat → List Int32} {R : Nat → Value} {v : Nat} (hX : XO X) (hv : VV v) (hR0 : R 0 = .ref v) (k_51_0 : ∀ (f' : Nat → Int32) (A' : Nat → List Int32) (y2 : Int32), CI f' A' R → (∀ k : Nat, k ≠ 1360 → k ≠ 1361 → f' k = f0 k) → (∀ k : Nat, k ≠ 39 → k ≠ 40 → A' k = A0 k) → (0 ≤ y2.toInt ∧ y2.toInt ≤ 9) → pmE pg X pg_tyl pg_cl (d + 4) 128 51 [.ref 85, .ref 33, .int y2] [] (cd f' A' R wr) Q) : ∀ (m : Nat) (f : Nat → Int32) (A : Nat → List Int32) (x2 : Int32), CI f A R → (∀ k : Nat, k ≠ 1360 → k ≠ 1361 → f k = f0 k) → (∀ k : Nat, k ≠ 39 → k ≠ 40 → A k = A0 k) → (0 ≤ x2.toInt ∧ x2.toInt ≤ 9) → 9 - x2.toInt < (m : Int) → pmE pg X pg_tyl pg_cl (d + 4) 128 2 [.ref 85, .ref 33, .int x2] [] (cd f A R wr) Q := by
  have bv := VV_b hv
  intro m
  induction m with
  | zero =>
    intro f A x2 hI hG hF gx2 hm
    exfalso
    have l0 := zi_lo x2
    have u0 := zi_hi x2
    omega
  | succ m ih =>
    intro f A x2 hI hG hF gx2 hm
    refine pe_iload_n (j := 2) (by decide +kernel) rfl ?_
    refine pe_aload_n (j := 1) (by decide +kernel) rfl ?_
    refine pe_get (j := 34) (ci := 7) (n := 0) (by decide +kernel) (by decide +kernel) cd_o33 rfl ?_
    refine pe_topV (v := .ref v) (hR0) ?_
    refine pe_get (j := 38) (ci := 9) (n := 0) (by decide +kernel) (by decide +kernel) (cv_o hv) rfl ?_
    have hr_f_16v := cv_people hv hI
    refine pz_icmp_ge (off := 41) (t := 51) (by decide +kernel) (by decide) rfl rfl rfl (fun h1 => ?_) (fun h1 => ?_)
    · skip
      exact k_51_0 f A x2 hI (fun k n1360 n1361 => (hG k n1360 n1361)) (fun k n39 n40 => (hF k n39 n40)) (by omega)
    · skip
      refine pe_aload_n (j := 0) (by decide +kernel) rfl ?_
      refine pi_V (j := 43) (mj := 129) (by decide +kernel) (cll_V (args := []) (n := 0) (by decide +kernel) rfl rfl cd_o85 (by decide +kernel) (Nat.le_of_ble_eq_true rfl) (Nat.le_of_ble_eq_true rfl)) ?_
      show pmE pg X pg_tyl pg_cl (d + 3) 129 0 [.ref 85] [] (cd f A R wr) _
      refine pe_aload_n (j := 0) (by decide +kernel) rfl ?_
      refine pe_aload_n (j := 0) (by decide +kernel) rfl ?_
      refine pe_get (j := 9) (ci := 2) (n := 0) (by decide +kernel) (by decide +kernel) cd_o85 rfl ?_
      refine pe_ldc (j := 55) (v := 1103515245) (by decide +kernel) (by decide +kernel) ?_
      refine pw_mul (by decide +kernel) (fun z2 => ?_)
      refine pe_sipushv (n := 12345) (v := 12345) (by decide +kernel) (by decide +kernel) ?_
      refine pw_add (by decide +kernel) (fun z3 => ?_)
      refine cz_put1360 (jj := 9) (by decide +kernel) (by decide +kernel) hI (fun f4 ef4 hIf4 => ?_)
      refine pe_aload_n (j := 0) (by decide +kernel) rfl ?_
      refine pe_get (j := 9) (ci := 2) (n := 0) (by decide +kernel) (by decide +kernel) cd_o85 rfl ?_
      refine pe_top (v := z3) (upf_at ef4) ?_
      refine pe_bipushv (n := 16) (v := 16) (by decide +kernel) (by decide +kernel) ?_
      refine pz_ushr16 (by decide +kernel) (fun z5 hz5 => ?_)
      refine pe_bipushv (n := 100) (v := 100) (by decide +kernel) (by decide +kernel) ?_
      refine pz_rem (by decide +kernel) rfl kz_100 (by omega) (by omega) (fun z6 hz6 gz6 kz6 => ?_)
      refine pe_iret (by decide +kernel) rfl rfl ⟨rfl, rfl, ?_⟩
      show pmE pg X pg_tyl pg_cl (d + 4) 128 17 [.ref 85, .ref 33, .int x2] [.int z6] (cd f4 A R wr) _
      refine pe_aload_n (j := 1) (by decide +kernel) rfl ?_
      refine pe_get (j := 34) (ci := 7) (n := 0) (by decide +kernel) (by decide +kernel) cd_o33 rfl ?_
      refine pe_topV (v := .ref v) (hR0) ?_
      refine pe_get (j := 47) (ci := 9) (n := 5) (by decide +kernel) (by decide +kernel) (cv_o hv) rfl ?_
      refine pe_iload_n (j := 2) (by decide +kernel) rfl ?_
      refine pz_iald (by decide +kernel) (cv_a3 hv) (cv_l3 hv hIf4) rfl (by omega) (by omega) (fun v7 ev7 => ?_)
      rw [show A (v + 3) = A0 (v + 3) from (hF (v + 3) (by omega) (by omega))] at ev7
      have lw9 := zi_lo v7
      have uw9 := zi_hi v7
      refine pz_icmp_ge (off := 19) (t := 45) (by decide +kernel) (by decide) rfl rfl rfl (fun h8 => ?_) (fun h8 => ?_)
      · skip
        refine pz_iinc (j := 2) (n := 1) (by decide +kernel) rfl rfl (by decide +kernel) (by omega) (by omega) (fun z10 hz10 => ?_)
        show pmE pg X pg_tyl pg_cl (d + 4) 128 48 [.ref 85, .ref 33, .int z10] [] (cd f4 A R wr) _
        refine pe_goto (off := (-46)) (t := 2) (by decide +kernel) (by decide) rfl ?_
        exact ih f4 A z10 hIf4 (fun k n1360 n1361 => (upf_fr ef4 n1360).trans ((hG k n1360 n1361))) (fun k n39 n40 => (hF k n39 n40)) (by omega) (by omega)
      · skip
        refine pe_aload_n (j := 1) (by decide +kernel) rfl ?_
        refine pe_iload_n (j := 2) (by decide +kernel) rfl ?_
        refine pz_callV (j := 51) (mj := 86) (by decide +kernel) (cll_V (args := [.int x2]) (n := 1) (by decide +kernel) rfl rfl cd_o33 (by decide +kernel) (Nat.le_of_ble_eq_true rfl) (Nat.le_of_ble_eq_true rfl)) (CM_86 hX hIf4 hv (hR0)) (fun q11a q11b q11c q11d hqq11 => ?_)
        obtain ⟨A12, rq11, eq11, hIq11, hFq11, kq11⟩ := hqq11
        cases eq11
        refine ⟨rfl, rfl, ?_⟩
        rcases kq11 with kq11 | kq11
        · skip
          obtain ⟨erq11, kq11⟩ := kq11
          subst erq11
          show pmE pg X pg_tyl pg_cl (d + 4) 128 34 [.ref 85, .ref 33, .int x2] [.int 0] (cd f4 A12 R wr) _
          refine pe_pop (by decide +kernel) rfl ?_
          refine pe_aload_n (j := 0) (by decide +kernel) rfl ?_
          refine pe_dup (by decide +kernel) rfl ?_
          refine pe_get (j := 15) (ci := 2) (n := 1) (by decide +kernel) (by decide +kernel) cd_o85 rfl ?_
          refine pe_top (v := (f 1361)) (upf_fr ef4 (by decide)) ?_
          refine pe_iconstv (n := 1) (v := 1) (by decide +kernel) (by decide +kernel) ?_
          refine pw_add (by decide +kernel) (fun z13 => ?_)
          refine cz_put1361 (jj := 15) (by decide +kernel) (by decide +kernel) hIq11 (fun f14 ef14 hIf14 => ?_)
          refine pz_iinc (j := 2) (n := 1) (by decide +kernel) rfl rfl (by decide +kernel) (by omega) (by omega) (fun z15 hz15 => ?_)
          show pmE pg X pg_tyl pg_cl (d + 4) 128 48 [.ref 85, .ref 33, .int z15] [] (cd f14 A12 R wr) _
          refine pe_goto (off := (-46)) (t := 2) (by decide +kernel) (by decide) rfl ?_
          exact ih f14 A12 z15 hIf14 (fun k n1360 n1361 => (upf_fr ef14 n1361).trans ((upf_fr ef4 n1360).trans ((hG k n1360 n1361)))) (fun k n39 n40 => ((hFq11 k n39 n40)).trans ((hF k n39 n40))) (by omega) (by omega)
        · skip
          obtain ⟨erq11, kq11⟩ := kq11
          subst erq11
          show pmE pg X pg_tyl pg_cl (d + 4) 128 34 [.ref 85, .ref 33, .int x2] [.int 1] (cd f4 A12 R wr) _
          refine pe_pop (by decide +kernel) rfl ?_
          refine pe_aload_n (j := 0) (by decide +kernel) rfl ?_
          refine pe_dup (by decide +kernel) rfl ?_
          refine pe_get (j := 15) (ci := 2) (n := 1) (by decide +kernel) (by decide +kernel) cd_o85 rfl ?_
          refine pe_top (v := (f 1361)) (upf_fr ef4 (by decide)) ?_
          refine pe_iconstv (n := 1) (v := 1) (by decide +kernel) (by decide +kernel) ?_
          refine pw_add (by decide +kernel) (fun z16 => ?_)
          refine cz_put1361 (jj := 15) (by decide +kernel) (by decide +kernel) hIq11 (fun f17 ef17 hIf17 => ?_)
          refine pz_iinc (j := 2) (n := 1) (by decide +kernel) rfl rfl (by decide +kernel) (by omega) (by omega) (fun z18 hz18 => ?_)
          show pmE pg X pg_tyl pg_cl (d + 4) 128 48 [.ref 85, .ref 33, .int z18] [] (cd f17 A12 R wr) _
          refine pe_goto (off := (-46)) (t := 2) (by decide +kernel) (by decide) rfl ?_
          exact ih f17 A12 z18 hIf17 (fun k n1360 n1361 => (upf_fr ef17 n1361).trans ((upf_fr ef4 n1360).trans ((hG k n1360 n1361)))) (fun k n39 n40 => ((hFq11 k n39 n40)).trans ((hF k n39 n40))) (by omega) (by omega)
set_option maxRecDepth 100000 in
set_option maxHeartbeats 8000000 in
theorem CM_128 {X : pm_X} {d : Nat} {wr : pm_W} {f : Nat → Int32} {A : Nat → List Int32} {R : Nat → Value} {v : Nat} (hX : XO X) (hI : CI f A R) (hv : VV v) (hR0 : R 0 = .ref v) : pmE pg X pg_tyl pg_cl (d + 4) 128 0 (pm_ent (pm_max pg 128) [.ref 85, .ref 33]) [] (cd f A R wr) (fun q => ∃ (f' : Nat → Int32) (A' : Nat → List Int32), q = (none, cd f' A' R wr, 0, 0) ∧ CI f' A' R ∧ (∀ k : Nat, k ≠ 1360 → k ≠ 1361 → f' k = f k) ∧ (∀ k : Nat, k ≠ 39 → k ≠ 40 → A' k = A k) ∧ ((True))) := by
  have bv := VV_b hv
  show pmE pg X pg_tyl pg_cl (d + 4) 128 0 [.ref 85, .ref 33, pm_dead] [] (cd f A R wr) _
  refine pe_iconstv (n := 0) (v := 0) (by decide +kernel) (by decide +kernel) ?_
  refine pe_istore_n (j := 2) (ls' := [.ref 85, .ref 33, .int 0]) (by decide +kernel) (Nat.le_of_ble_eq_true rfl) rfl ?_
  refine CL_128_2 hX hv (hR0) (fun f1 A2 y3 hIy4 hGf1 hFA2 gy3 => ?_) 10 f A 0 hI (fun k _ _ => rfl) (fun k _ _ => rfl) (by decide +kernel) (by decide +kernel)
  exact pe_vret (by decide +kernel) rfl ⟨f1, A2, rfl, hIy4, (fun k n1360 n1361 => (hGf1 k n1360 n1361)), (fun k n39 n40 => (hFA2 k n39 n40)), trivial⟩
set_option maxRecDepth 100000 in
set_option maxHeartbeats 8000000 in
theorem CL_127_18 {X : pm_X} {d : Nat} {wr : pm_W} {Q : pm_R → Prop} {f0 : Nat → Int32} {A0 : Nat → List Int32} {R : Nat → Value} {x2 x3 : Int32} {v : Nat} (hX : XO X) (hv : VV v) (hR0 : R 0 = .ref v) (gx3 : (0 ≤ x3.toInt ∧ x3.toInt ≤ 24)) (k_61_0 : ∀ (f' : Nat → Int32) (A' : Nat → List Int32) (y4 : Int32), CI f' A' R → (∀ k : Nat, k ≠ 529 → k ≠ 1360 → k ≠ 1361 → k ≠ 1362 → f' k = f0 k) → (∀ k : Nat, k ≠ 39 → k ≠ 40 → A' k = A0 k) → (0 ≤ y4.toInt ∧ y4.toInt ≤ 24) → pmE pg X pg_tyl pg_cl (d + 5) 127 61 [.ref 85, .ref 33, .int x2, .int x3, .int y4] [] (cd f' A' R wr) Q) : ∀ (m : Nat) (f : Nat → Int32) (A : Nat → List Int32) (x4 : Int32), CI f A R → (∀ k : Nat, k ≠ 529 → k ≠ 1360 → k ≠ 1361 → k ≠ 1362 → f k = f0 k) → (∀ k : Nat, k ≠ 39 → k ≠ 40 → A k = A0 k) → (0 ≤ x4.toInt ∧ x4.toInt ≤ 24) → 24 - x4.toInt < (m : Int) → pmE pg X pg_tyl pg_cl (d + 5) 127 18 [.ref 85, .ref 33, .int x2, .int x3, .int x4] [] (cd f A R wr) Q := by
  have bv := VV_b hv
  intro m
  induction m with
  | zero =>
    intro f A x4 hI hG hF gx4 hm
    exfalso
    have l0 := zi_lo x4
    have u0 := zi_hi x4
    omega
  | succ m ih =>
    intro f A x4 hI hG hF gx4 hm
    refine pe_iload (j := 4) (by decide +kernel) rfl ?_
    refine pe_iload_n (j := 3) (by decide +kernel) rfl ?_
    refine pz_icmp_ge (off := 40) (t := 61) (by decide +kernel) (by decide) rfl rfl rfl (fun h1 => ?_) (fun h1 => ?_)
    · skip
      exact k_61_0 f A x4 hI (fun k n529 n1360 n1361 n1362 => (hG k n529 n1360 n1361 n1362)) (fun k n39 n40 => (hF k n39 n40)) (by omega)
    · skip
      refine pe_aload_n (j := 0) (by decide +kernel) rfl ?_
      refine pe_aload_n (j := 1) (by decide +kernel) rfl ?_
      refine pz_callV (j := 21) (mj := 128) (by decide +kernel) (cll_V (args := [.ref 33]) (n := 1) (by decide +kernel) rfl rfl cd_o85 (by decide +kernel) (Nat.le_of_ble_eq_true rfl) (Nat.le_of_ble_eq_true rfl)) (CM_128 hX hI hv (hR0)) (fun q2a q2b q2c q2d hqq2 => ?_)
      obtain ⟨f3, A4, eq2, hIq2, hGq2, hFq2, kq2⟩ := hqq2
      cases eq2
      refine ⟨rfl, rfl, ?_⟩
      show pmE pg X pg_tyl pg_cl (d + 5) 127 29 [.ref 85, .ref 33, .int x2, .int x3, .int x4] [] (cd f3 A4 R wr) _
      refine pe_aload_n (j := 1) (by decide +kernel) rfl ?_
      refine pz_callV (j := 25) (mj := 90) (by decide +kernel) (cll_V (args := []) (n := 0) (by decide +kernel) rfl rfl cd_o33 (by decide +kernel) (Nat.le_of_ble_eq_true rfl) (Nat.le_of_ble_eq_true rfl)) (CM_90 hX hIq2) (fun q5a q5b q5c q5d hqq5 => ?_)
      obtain ⟨f6, A7, rq5, eq5, hIq5, hGq5, hFq5, kq5⟩ := hqq5
      cases eq5
      refine ⟨rfl, rfl, ?_⟩
      obtain ⟨erq5, kq5⟩ := kq5
      subst erq5
      show pmE pg X pg_tyl pg_cl (d + 5) 127 33 [.ref 85, .ref 33, .int x2, .int x3, .int x4] [.int 1] (cd f6 A7 R wr) _
      refine pe_pop (by decide +kernel) rfl ?_
      refine pe_aload_n (j := 0) (by decide +kernel) rfl ?_
      refine pe_get (j := 18) (ci := 2) (n := 2) (by decide +kernel) (by decide +kernel) cd_o85 rfl ?_
      refine pe_top (v := (f 1362)) (((hGq5 1362 (by decide))).trans ((hGq2 1362 (by decide) (by decide)))) ?_
      refine pe_iconstv (n := (-1)) (v := (-1)) (by decide +kernel) (by decide +kernel) ?_
      have lw9 := zi_lo (f 1362)
      have uw9 := zi_hi (f 1362)
      refine pz_icmp_ne (off := 16) (t := 55) (by decide +kernel) (by decide) rfl rfl kz_m1 (fun h8 => ?_) (fun h8 => ?_)
      · skip
        refine pz_iinc (j := 4) (n := 1) (by decide +kernel) rfl rfl (by decide +kernel) (by omega) (by omega) (fun z10 hz10 => ?_)
        show pmE pg X pg_tyl pg_cl (d + 5) 127 58 [.ref 85, .ref 33, .int x2, .int x3, .int z10] [] (cd f6 A7 R wr) _
        refine pe_goto (off := (-40)) (t := 18) (by decide +kernel) (by decide) rfl ?_
        exact ih f6 A7 z10 hIq5 (fun k n529 n1360 n1361 n1362 => ((hGq5 k n529)).trans (((hGq2 k n1360 n1361)).trans ((hG k n529 n1360 n1361 n1362)))) (fun k n39 n40 => ((hFq5 k n39 n40)).trans (((hFq2 k n39 n40)).trans ((hF k n39 n40)))) (by omega) (by omega)
      · skip
        refine pe_aload_n (j := 1) (by decide +kernel) rfl ?_
        refine pz_callV (j := 31) (mj := 92) (by decide +kernel) (cll_V (args := []) (n := 0) (by decide +kernel) rfl rfl cd_o33 (by decide +kernel) (Nat.le_of_ble_eq_true rfl) (Nat.le_of_ble_eq_true rfl)) (CM_92 hX hIq5 hv (hR0)) (fun q11a q11b q11c q11d hqq11 => ?_)
        obtain ⟨rq11, eq11, kq11⟩ := hqq11
        cases eq11
        refine ⟨rfl, rfl, ?_⟩
        rcases kq11 with kq11 | kq11
        · skip
          obtain ⟨erq11, kq11⟩ := kq11
          subst erq11
          show pmE pg X pg_tyl pg_cl (d + 5) 127 46 [.ref 85, .ref 33, .int x2, .int x3, .int x4] [.int 0] (cd f6 A7 R wr) _
          refine pz_if_ne (off := 9) (t := 55) (by decide +kernel) (by decide) rfl kz_0 (fun h12 => by omega) (fun h12 => ?_)
          refine pe_aload_n (j := 0) (by decide +kernel) rfl ?_
          refine pe_iload (j := 4) (by decide +kernel) rfl ?_
          refine cz_put1362 (jj := 18) (by decide +kernel) (by decide +kernel) hIq5 (fun f13 ef13 hIf13 => ?_)
          refine pz_iinc (j := 4) (n := 1) (by decide +kernel) rfl rfl (by decide +kernel) (by omega) (by omega) (fun z14 hz14 => ?_)
          show pmE pg X pg_tyl pg_cl (d + 5) 127 58 [.ref 85, .ref 33, .int x2, .int x3, .int z14] [] (cd f13 A7 R wr) _
          refine pe_goto (off := (-40)) (t := 18) (by decide +kernel) (by decide) rfl ?_
          exact ih f13 A7 z14 hIf13 (fun k n529 n1360 n1361 n1362 => (upf_fr ef13 n1362).trans (((hGq5 k n529)).trans (((hGq2 k n1360 n1361)).trans ((hG k n529 n1360 n1361 n1362))))) (fun k n39 n40 => ((hFq5 k n39 n40)).trans (((hFq2 k n39 n40)).trans ((hF k n39 n40)))) (by omega) (by omega)
        · skip
          obtain ⟨erq11, kq11⟩ := kq11
          subst erq11
          show pmE pg X pg_tyl pg_cl (d + 5) 127 46 [.ref 85, .ref 33, .int x2, .int x3, .int x4] [.int 1] (cd f6 A7 R wr) _
          refine pz_if_ne (off := 9) (t := 55) (by decide +kernel) (by decide) rfl kz_1 (fun h15 => ?_) (fun h15 => by omega)
          refine pz_iinc (j := 4) (n := 1) (by decide +kernel) rfl rfl (by decide +kernel) (by omega) (by omega) (fun z16 hz16 => ?_)
          show pmE pg X pg_tyl pg_cl (d + 5) 127 58 [.ref 85, .ref 33, .int x2, .int x3, .int z16] [] (cd f6 A7 R wr) _
          refine pe_goto (off := (-40)) (t := 18) (by decide +kernel) (by decide) rfl ?_
          exact ih f6 A7 z16 hIq5 (fun k n529 n1360 n1361 n1362 => ((hGq5 k n529)).trans (((hGq2 k n1360 n1361)).trans ((hG k n529 n1360 n1361 n1362)))) (fun k n39 n40 => ((hFq5 k n39 n40)).trans (((hFq2 k n39 n40)).trans ((hF k n39 n40)))) (by omega) (by omega)
set_option maxRecDepth 100000 in
set_option maxHeartbeats 8000000 in
theorem CM_127 {X : pm_X} {d : Nat} {wr : pm_W} {f : Nat → Int32} {A : Nat → List Int32} {R : Nat → Value} {x2 x3 : Int32} {v : Nat} (hX : XO X) (hI : CI f A R) (hv : VV v) (hR0 : R 0 = .ref v) (gx3 : (0 ≤ x3.toInt ∧ x3.toInt ≤ 24)) : pmE pg X pg_tyl pg_cl (d + 5) 127 0 (pm_ent (pm_max pg 127) [.ref 85, .ref 33, .int x2, .int x3]) [] (cd f A R wr) (fun q => ∃ (f' : Nat → Int32) (A' : Nat → List Int32), q = (none, cd f' A' R wr, 0, 0) ∧ CI f' A' R ∧ (∀ k : Nat, k ≠ 529 → k ≠ 1360 → k ≠ 1361 → k ≠ 1362 → f' k = f k) ∧ (∀ k : Nat, k ≠ 39 → k ≠ 40 → A' k = A k) ∧ ((True))) := by
  have bv := VV_b hv
  show pmE pg X pg_tyl pg_cl (d + 5) 127 0 [.ref 85, .ref 33, .int x2, .int x3, pm_dead] [] (cd f A R wr) _
  refine pe_aload_n (j := 0) (by decide +kernel) rfl ?_
  refine pe_iload_n (j := 2) (by decide +kernel) rfl ?_
  refine cz_put1360 (jj := 9) (by decide +kernel) (by decide +kernel) hI (fun f1 ef1 hIf1 => ?_)
  refine pe_aload_n (j := 0) (by decide +kernel) rfl ?_
  refine pe_iconstv (n := 0) (v := 0) (by decide +kernel) (by decide +kernel) ?_
  refine cz_put1361 (jj := 15) (by decide +kernel) (by decide +kernel) hIf1 (fun f2 ef2 hIf2 => ?_)
  refine pe_aload_n (j := 0) (by decide +kernel) rfl ?_
  refine pe_iconstv (n := (-1)) (v := (-1)) (by decide +kernel) (by decide +kernel) ?_
  refine cz_put1362 (jj := 18) (by decide +kernel) (by decide +kernel) hIf2 (fun f3 ef3 hIf3 => ?_)
  refine pe_iconstv (n := 0) (v := 0) (by decide +kernel) (by decide +kernel) ?_
  refine pe_istore (j := 4) (ls' := [.ref 85, .ref 33, .int x2, .int x3, .int 0]) (by decide +kernel) (Nat.le_of_ble_eq_true rfl) rfl ?_
  refine CL_127_18 hX hv (hR0) (by omega) (fun f4 A5 y6 hIy7 hGf4 hFA5 gy6 => ?_) 25 f3 A 0 hIf3 (fun k _ _ _ _ => rfl) (fun k _ _ => rfl) (by decide +kernel) (by decide +kernel)
  exact pe_vret (by decide +kernel) rfl ⟨f4, A5, rfl, hIy7, (fun k n529 n1360 n1361 n1362 => ((hGf4 k n529 n1360 n1361 n1362)).trans ((upf_fr ef3 n1362).trans ((upf_fr ef2 n1361).trans (upf_fr ef1 n1360)))), (fun k n39 n40 => (hFA5 k n39 n40)), trivial⟩
end
section
set_option maxRecDepth 100000 in
set_option maxHeartbeats 8000000 in
theorem CL_165_52 {X : pm_X} {d : Nat} {wr : pm_W} {Q : pm_R → Prop} {f : Nat → Int32} {A0 : Nat → List Int32} {R : Nat → Value} {x1 x2 x4 x5 : Int32} (hX : XO X) (gx1 : (0 ≤ x1.toInt ∧ x1.toInt ≤ 11)) (gx2 : (0 ≤ x2.toInt ∧ x2.toInt ≤ 11)) (gx4 : (0 ≤ x4.toInt ∧ x4.toInt ≤ 11)) (gx5 : (0 ≤ x5.toInt ∧ x5.toInt ≤ 11)) (k_112_0 : ∀ (A' : Nat → List Int32) (y3 : Int32) (y6 : Int32), CI f A' R → (∀ k : Nat, k ≠ 81 → k ≠ 82 → A' k = A0 k) → (1 ≤ y3.toInt ∧ y3.toInt ≤ 12) → (12 ≤ y6.toInt ∧ y6.toInt ≤ 12) → x4.toInt ≤ y3.toInt → ((-1) * y3.toInt + x4.toInt + 1) ≤ 0 → FW (A' 81) (A' 82) y3.toInt → NV (A' 81) x5.toInt → pmE pg X pg_tyl pg_cl (d + 1) 165 112 [.ref 79, .int x1, .int x2, .int y3, .int x4, .int x5, .int y6] [] (cd f A' R wr) Q) : ∀ (m : Nat) (A : Nat → List Int32) (x3 : Int32) (x6 : Int32), CI f A R → (∀ k : Nat, k ≠ 81 → k ≠ 82 → A k = A0 k) → (1 ≤ x3.toInt ∧ x3.toInt ≤ 12) → (0 ≤ x6.toInt ∧ x6.toInt ≤ 12) → ((-1) * x3.toInt + x4.toInt + 1) ≤ 0 → FW (A 81) (A 82) x3.toInt → NV (A 81) x5.toInt → 12 - x6.toInt < (m : Int) → pmE pg X pg_tyl pg_cl (d + 1) 165 52 [.ref 79, .int x1, .int x2, .int x3, .int x4, .int x5, .int x6] [] (cd f A R wr) Q := by
  intro m
  induction m with
  | zero =>
    intro A x3 x6 hI hF gx3 gx6 hxi0 hpi0 hpi1 hm
    exfalso
    have l0 := zi_lo x6
    have u0 := zi_hi x6
    omega
  | succ m ih =>
    intro A x3 x6 hI hF gx3 gx6 hxi0 hpi0 hpi1 hm
    refine pe_iload (j := 6) (by decide +kernel) rfl ?_
    refine pe_bipushv (n := 12) (v := 12) (by decide +kernel) (by decide +kernel) ?_
    refine pz_icmp_ge (off := 56) (t := 112) (by decide +kernel) (by decide) rfl rfl kz_12 (fun h1 => ?_) (fun h1 => ?_)
    · skip
      exact k_112_0 A x3 x6 hI (fun k n81 n82 => (hF k n81 n82)) (by omega) (by omega) (by omega) (by omega) hpi0 hpi1
    · skip
      refine pe_aload_n (j := 0) (by decide +kernel) rfl ?_
      refine pe_get (j := 15) (ci := 0) (n := 1) (by decide +kernel) (by decide +kernel) cd_o79 rfl ?_
      refine pe_iload (j := 6) (by decide +kernel) rfl ?_
      refine pz_iald (by decide +kernel) cd_a81 (cl_81 hI) rfl (by omega) (by omega) (fun v2 ev2 => ?_)
      have rv2 : (-1) ≤ v2.toInt ∧ v2.toInt ≤ 11 := ct_81 hI ev2
      refine pe_iconstv (n := (-1)) (v := (-1)) (by decide +kernel) (by decide +kernel) ?_
      refine pz_icmp_ne (off := 39) (t := 106) (by decide +kernel) (by decide) rfl rfl kz_m1 (fun h3 => ?_) (fun h3 => ?_)
      · skip
        refine pz_iinc (j := 6) (n := 1) (by decide +kernel) rfl rfl (by decide +kernel) (by omega) (by omega) (fun z4 hz4 => ?_)
        show pmE pg X pg_tyl pg_cl (d + 1) 165 109 [.ref 79, .int x1, .int x2, .int x3, .int x4, .int x5, .int z4] [] (cd f A R wr) _
        refine pe_goto (off := (-57)) (t := 52) (by decide +kernel) (by decide) rfl ?_
        exact ih A x3 z4 hI (fun k n81 n82 => (hF k n81 n82)) (by omega) (by omega) (by omega) hpi0 hpi1 (by omega)
      · skip
        refine pe_aload_n (j := 0) (by decide +kernel) rfl ?_
        refine pe_get (j := 11) (ci := 0) (n := 0) (by decide +kernel) (by decide +kernel) cd_o79 rfl ?_
        refine pe_iload (j := 5) (by decide +kernel) rfl ?_
        refine pe_bipushv (n := 12) (v := 12) (by decide +kernel) (by decide +kernel) ?_
        refine pz_mul (by decide +kernel) rfl kz_12 (by omega) (by omega) (fun z5 hz5 => ?_)
        refine pe_iload (j := 6) (by decide +kernel) rfl ?_
        refine pz_add (by decide +kernel) hz5 rfl (by omega) (by omega) (fun z6 hz6 => ?_)
        clear hz5
        refine pz_iald (by decide +kernel) cd_a80 (cl_80 hI) hz6 (by omega) (by omega) (fun v7 ev7 => ?_)
        rw [show A 80 = A0 80 from (hF 80 (by decide) (by decide))] at ev7
        clear hz6
        have lw9 := zi_lo v7
        have uw9 := zi_hi v7
        refine pz_if_le (off := 23) (t := 106) (by decide +kernel) (by decide) rfl rfl (fun h8 => ?_) (fun h8 => ?_)
        · skip
          refine pz_iinc (j := 6) (n := 1) (by decide +kernel) rfl rfl (by decide +kernel) (by omega) (by omega) (fun z10 hz10 => ?_)
          show pmE pg X pg_tyl pg_cl (d + 1) 165 109 [.ref 79, .int x1, .int x2, .int x3, .int x4, .int x5, .int z10] [] (cd f A R wr) _
          refine pe_goto (off := (-57)) (t := 52) (by decide +kernel) (by decide) rfl ?_
          exact ih A x3 z10 hI (fun k n81 n82 => (hF k n81 n82)) (by omega) (by omega) (by omega) hpi0 hpi1 (by omega)
        · skip
          have hb11 := FW_lt (k := x6.toInt.toNat) hpi0 (cl_81 hI) (by omega) (by rw [← ev2]; omega)
          refine pe_aload_n (j := 0) (by decide +kernel) rfl ?_
          refine pe_get (j := 15) (ci := 0) (n := 1) (by decide +kernel) (by decide +kernel) cd_o79 rfl ?_
          refine pe_iload (j := 6) (by decide +kernel) rfl ?_
          refine pe_iload (j := 5) (by decide +kernel) rfl ?_
          refine cz_st81 (by decide +kernel) hI rfl (by omega) (by omega) (by simp only [CT]; omega) (fun A11 eA11 hIA11 => ?_)
          refine pe_aload_n (j := 0) (by decide +kernel) rfl ?_
          refine pe_get (j := 18) (ci := 0) (n := 2) (by decide +kernel) (by decide +kernel) cd_o79 rfl ?_
          refine pe_iload_n (j := 3) (by decide +kernel) rfl ?_
          refine pe_iload (j := 6) (by decide +kernel) rfl ?_
          refine cz_st82 (by decide +kernel) hIA11 rfl (by omega) (by omega) (by simp only [CT]; omega) (fun A12 eA12 hIA12 => ?_)
          refine pz_iinc (j := 3) (n := 1) (by decide +kernel) rfl rfl (by decide +kernel) (by omega) (by omega) (fun z13 hz13 => ?_)
          show pmE pg X pg_tyl pg_cl (d + 1) 165 106 [.ref 79, .int x1, .int x2, .int z13, .int x4, .int x5, .int x6] [] (cd f A12 R wr) _
          refine pz_iinc (j := 6) (n := 1) (by decide +kernel) rfl rfl (by decide +kernel) (by omega) (by omega) (fun z14 hz14 => ?_)
          show pmE pg X pg_tyl pg_cl (d + 1) 165 109 [.ref 79, .int x1, .int x2, .int z13, .int x4, .int x5, .int z14] [] (cd f A12 R wr) _
          refine pe_goto (off := (-57)) (t := 52) (by decide +kernel) (by decide) rfl ?_
          exact ih A12 z13 z14 hIA12 (fun k n81 n82 => (upa_fr eA12 n82).trans ((upa_fr eA11 n81).trans ((hF k n81 n82)))) (by omega) (by omega) (by omega) (by rw [show A12 81 = A11 81 from upa_fr eA12 (by decide), upa_at eA11, upa_at eA12, show A11 82 = A 82 from upa_fr eA11 (by decide), hz13]; exact FW_step hpi0 (cl_81 hI) (cl_82 hI) (fun i => ct_81 hI rfl) (fun i => ct_82 hI rfl) (by omega) (by omega) (by rw [← ev2]; omega) (by omega) hpi1 (by omega) (by omega)) (by rw [show A12 81 = A11 81 from upa_fr eA12 (by decide), upa_at eA11]; exact NV_set (by omega) (by rw [← ev2]; omega) hpi1) (by omega)
set_option maxRecDepth 100000 in
set_option maxHeartbeats 8000000 in
theorem CL_165_27 {X : pm_X} {d : Nat} {wr : pm_W} {Q : pm_R → Prop} {f : Nat → Int32} {A0 : Nat → List Int32} {R : Nat → Value} {x1 x2 : Int32} (hX : XO X) (gx1 : (0 ≤ x1.toInt ∧ x1.toInt ≤ 11)) (gx2 : (0 ≤ x2.toInt ∧ x2.toInt ≤ 11)) (k_130_0 : ∀ (A' : Nat → List Int32) (y3 : Int32) (y4 : Int32) (v5 : Value) (v6 : Value), CI f A' R → (∀ k : Nat, k ≠ 81 → k ≠ 82 → A' k = A0 k) → (1 ≤ y3.toInt ∧ y3.toInt ≤ 12) → (1 ≤ y4.toInt ∧ y4.toInt ≤ 12) → pmE pg X pg_tyl pg_cl (d + 1) 165 130 [.ref 79, .int x1, .int x2, .int y3, .int y4, v5, v6] [] (cd f A' R wr) Q) (kr_1 : ∀ (A' : Nat → List Int32), CI f A' R → (∀ k : Nat, k ≠ 81 → k ≠ 82 → A' k = A0 k) → (CV (A' 81) ∧ NV (A' 81) x2.toInt) → Q (some (.int 1), cd f A' R wr, 0, 0)) : ∀ (m : Nat) (A : Nat → List Int32) (x3 : Int32) (x4 : Int32) (u5 : Value) (u6 : Value), CI f A R → (∀ k : Nat, k ≠ 81 → k ≠ 82 → A k = A0 k) → (1 ≤ x3.toInt ∧ x3.toInt ≤ 12) → (0 ≤ x4.toInt ∧ x4.toInt ≤ 12) → FW (A 81) (A 82) x3.toInt → 12 - x4.toInt < (m : Int) → pmE pg X pg_tyl pg_cl (d + 1) 165 27 [.ref 79, .int x1, .int x2, .int x3, .int x4, u5, u6] [] (cd f A R wr) Q := by
  intro m
  induction m with
  | zero =>
    intro A x3 x4 u5 u6 hI hF gx3 gx4 hpi0 hm
    exfalso
    have l0 := zi_lo x4
    have u0 := zi_hi x4
    omega
  | succ m ih =>
    intro A x3 x4 u5 u6 hI hF gx3 gx4 hpi0 hm
    refine pe_iload (j := 4) (by decide +kernel) rfl ?_
    refine pe_iload_n (j := 3) (by decide +kernel) rfl ?_
    refine pz_icmp_ge (off := 100) (t := 130) (by decide +kernel) (by decide) rfl rfl rfl (fun h1 => ?_) (fun h1 => ?_)
    · skip
      exact k_130_0 A x3 x4 (u5) (u6) hI (fun k n81 n82 => (hF k n81 n82)) (by omega) (by omega)
    · skip
      refine pe_iload (j := 4) (by decide +kernel) rfl ?_
      refine pe_bipushv (n := 12) (v := 12) (by decide +kernel) (by decide +kernel) ?_
      refine pz_icmp_ge (off := 93) (t := 130) (by decide +kernel) (by decide) rfl rfl kz_12 (fun h2 => by omega) (fun h2 => ?_)
      refine pe_aload_n (j := 0) (by decide +kernel) rfl ?_
      refine pe_get (j := 18) (ci := 0) (n := 2) (by decide +kernel) (by decide +kernel) cd_o79 rfl ?_
      refine pe_iload (j := 4) (by decide +kernel) rfl ?_
      refine pz_iald (by decide +kernel) cd_a82 (cl_82 hI) rfl (by omega) (by omega) (fun v3 ev3 => ?_)
      have rv3 : 0 ≤ v3.toInt ∧ v3.toInt ≤ 11 := ct_82 hI ev3
      refine pe_istore (j := 5) (ls' := [.ref 79, .int x1, .int x2, .int x3, .int x4, .int v3, u6]) (by decide +kernel) (Nat.le_of_ble_eq_true rfl) rfl ?_
      refine pe_iconstv (n := 0) (v := 0) (by decide +kernel) (by decide +kernel) ?_
      refine pe_istore (j := 6) (ls' := [.ref 79, .int x1, .int x2, .int x3, .int x4, .int v3, .int 0]) (by decide +kernel) (Nat.le_of_ble_eq_true rfl) rfl ?_
      refine CL_165_52 hX (by omega) (by omega) (by omega) (by omega) (fun A4 y5 y6 hIy7 hFA4 gy5 gy6 hr8 hx9 hp10 hp11 => ?_) 13 A x3 0 hI (fun k _ _ => rfl) (by omega) (by decide +kernel) (by omega) hpi0 (by rw [ev3]; exact (hpi0).2.1 x4.toInt (by omega) (by omega)) (by decide +kernel)
      refine pe_aload_n (j := 0) (by decide +kernel) rfl ?_
      refine pe_get (j := 15) (ci := 0) (n := 1) (by decide +kernel) (by decide +kernel) cd_o79 rfl ?_
      refine pe_iload_n (j := 2) (by decide +kernel) rfl ?_
      refine pz_iald (by decide +kernel) cd_a81 (cl_81 hIy7) rfl (by omega) (by omega) (fun v12 ev12 => ?_)
      have rv12 : (-1) ≤ v12.toInt ∧ v12.toInt ≤ 11 := ct_81 hIy7 ev12
      refine pe_iconstv (n := (-1)) (v := (-1)) (by decide +kernel) (by decide +kernel) ?_
      refine pz_icmp_eq (off := 5) (t := 124) (by decide +kernel) (by decide) rfl rfl kz_m1 (fun h13 => ?_) (fun h13 => ?_)
      · skip
        refine pz_iinc (j := 4) (n := 1) (by decide +kernel) rfl rfl (by decide +kernel) (by omega) (by omega) (fun z14 hz14 => ?_)
        show pmE pg X pg_tyl pg_cl (d + 1) 165 127 [.ref 79, .int x1, .int x2, .int y5, .int z14, .int v3, .int y6] [] (cd f A4 R wr) _
        refine pe_goto (off := (-100)) (t := 27) (by decide +kernel) (by decide) rfl ?_
        exact ih A4 y5 z14 (.int v3) (.int y6) hIy7 (fun k n81 n82 => ((hFA4 k n81 n82)).trans ((hF k n81 n82))) (by omega) (by omega) hp10 (by omega)
      · skip
        refine pe_iconstv (n := 1) (v := 1) (by decide +kernel) (by decide +kernel) ?_
        exact pe_iret (by decide +kernel) rfl rfl (kr_1 A4 hIy7 (fun k n81 n82 => ((hFA4 k n81 n82)).trans ((hF k n81 n82))) ⟨(hp10).2.2, (by unfold NV; rw [← ev12]; omega)⟩)
set_option maxRecDepth 100000 in
set_option maxHeartbeats 8000000 in
theorem CM_165 {X : pm_X} {d : Nat} {wr : pm_W} {f : Nat → Int32} {A : Nat → List Int32} {R : Nat → Value} {x1 x2 : Int32} (hX : XO X) (hI : CI f A R) (gx1 : (0 ≤ x1.toInt ∧ x1.toInt ≤ 11)) (gx2 : (0 ≤ x2.toInt ∧ x2.toInt ≤ 11)) : pmE pg X pg_tyl pg_cl (d + 1) 165 0 (pm_ent (pm_max pg 165) [.ref 79, .int x1, .int x2]) [] (cd f A R wr) (fun q => ∃ (A' : Nat → List Int32) (r : Int32), q = (some (.int r), cd f A' R wr, 0, 0) ∧ CI f A' R ∧ (∀ k : Nat, k ≠ 81 → k ≠ 82 → A' k = A k) ∧ ((r = 1 ∧ (CV (A' 81) ∧ NV (A' 81) x2.toInt) ∧ True) ∨ (r = 0 ∧ True))) := by
  show pmE pg X pg_tyl pg_cl (d + 1) 165 0 [.ref 79, .int x1, .int x2, pm_dead, pm_dead, pm_dead, pm_dead] [] (cd f A R wr) _
  refine pe_aload_n (j := 0) (by decide +kernel) rfl ?_
  refine pe_get (j := 15) (ci := 0) (n := 1) (by decide +kernel) (by decide +kernel) cd_o79 rfl ?_
  refine pe_iconstv (n := (-1)) (v := (-1)) (by decide +kernel) (by decide +kernel) ?_
  refine cz_fill (j := 21) (k := 81) (n := 12) (by decide +kernel) (by decide +kernel) rfl cd_a81 (fun _ => cd_s81) hI (cl_81 hI) (by decide +kernel) (ct_one (kd := 4) (P := fun kd => ∀ i, CT kd i ((List.replicate 12 ((-1) : Int32)).getD i 0).toInt) (by decide +kernel) (fun i => rep_P (P := fun z => CT 4 i z.toInt) ct4_m ct4_z)) (fun A1 eA1 hIA1 => ?_)
  refine pe_aload_n (j := 0) (by decide +kernel) rfl ?_
  refine pe_get (j := 15) (ci := 0) (n := 1) (by decide +kernel) (by decide +kernel) cd_o79 rfl ?_
  refine pe_iload_n (j := 1) (by decide +kernel) rfl ?_
  refine pe_iload_n (j := 1) (by decide +kernel) rfl ?_
  refine cz_st81 (by decide +kernel) hIA1 rfl (by omega) (by omega) (by simp only [CT]; omega) (fun A2 eA2 hIA2 => ?_)
  refine pe_aload_n (j := 0) (by decide +kernel) rfl ?_
  refine pe_get (j := 18) (ci := 0) (n := 2) (by decide +kernel) (by decide +kernel) cd_o79 rfl ?_
  refine pe_iconstv (n := 0) (v := 0) (by decide +kernel) (by decide +kernel) ?_
  refine pe_iload_n (j := 1) (by decide +kernel) rfl ?_
  refine cz_st82 (by decide +kernel) hIA2 kz_0 (by omega) (by omega) (by simp only [CT]; omega) (fun A3 eA3 hIA3 => ?_)
  refine pe_iconstv (n := 1) (v := 1) (by decide +kernel) (by decide +kernel) ?_
  refine pe_istore_n (j := 3) (ls' := [.ref 79, .int x1, .int x2, .int 1, pm_dead, pm_dead, pm_dead]) (by decide +kernel) (Nat.le_of_ble_eq_true rfl) rfl ?_
  refine pe_iconstv (n := 0) (v := 0) (by decide +kernel) (by decide +kernel) ?_
  refine pe_istore (j := 4) (ls' := [.ref 79, .int x1, .int x2, .int 1, .int 0, pm_dead, pm_dead]) (by decide +kernel) (Nat.le_of_ble_eq_true rfl) rfl ?_
  refine CL_165_27 hX (by omega) (by omega) (fun A4 y5 y6 u7 u8 hIy9 hFA4 gy5 gy6 => ?_) (fun A10 hIy11 hFA10 hp12 => ⟨A10, 1, rfl, hIy11, (fun k n81 n82 => ((hFA10 k n81 n82)).trans ((upa_fr eA3 n82).trans ((upa_fr eA2 n81).trans (upa_fr eA1 n81)))), Or.inl ⟨rfl, hp12, trivial⟩⟩) 13 A3 1 0 (pm_dead) (pm_dead) hIA3 (fun k _ _ => rfl) (by decide +kernel) (by decide +kernel) (by rw [kz_1, show A3 81 = A2 81 from upa_fr eA3 (by decide), upa_at eA2, upa_at eA1, upa_at eA3]; exact FW_first (cl_82 hIA2) gx1.1 (by omega)) (by decide +kernel)
  refine pe_iconstv (n := 0) (v := 0) (by decide +kernel) (by decide +kernel) ?_
  exact pe_iret (by decide +kernel) rfl rfl ⟨A4, 0, rfl, hIy9, (fun k n81 n82 => ((hFA4 k n81 n82)).trans ((upa_fr eA3 n82).trans ((upa_fr eA2 n81).trans (upa_fr eA1 n81)))), Or.inr (⟨rfl, trivial⟩)⟩
set_option maxRecDepth 100000 in
set_option maxHeartbeats 8000000 in
theorem CL_166_66 {X : pm_X} {d : Nat} {wr : pm_W} {Q : pm_R → Prop} {f : Nat → Int32} {A0 : Nat → List Int32} {R : Nat → Value} {x1 x2 x3 : Int32} (hX : XO X) (gx1 : (0 ≤ x1.toInt ∧ x1.toInt ≤ 11)) (gx2 : (0 ≤ x2.toInt ∧ x2.toInt ≤ 11)) (gx3 : (x3.toInt ≤ 1000000)) (k_132_0 : ∀ (A' : Nat → List Int32) (y4 : Int32) (y5 : Int32) (v6 : Value), CI f A' R → (∀ k : Nat, k ≠ 80 → A' k = A0 k) → (0 ≤ y4.toInt ∧ y4.toInt ≤ 11) → (0 ≤ y5.toInt ∧ y5.toInt ≤ 12) → pmE pg X pg_tyl pg_cl (d) 166 132 [.ref 79, .int x1, .int x2, .int x3, .int y4, .int y5, v6] [] (cd f A' R wr) Q) : ∀ (m : Nat) (A : Nat → List Int32) (x4 : Int32) (x5 : Int32) (u6 : Value), CI f A R → (∀ k : Nat, k ≠ 80 → A k = A0 k) → (0 ≤ x4.toInt ∧ x4.toInt ≤ 11) → (0 ≤ x5.toInt ∧ x5.toInt ≤ 12) → CV (A 81) → NV (A 81) x4.toInt → 12 - x5.toInt < (m : Int) → pmE pg X pg_tyl pg_cl (d) 166 66 [.ref 79, .int x1, .int x2, .int x3, .int x4, .int x5, u6] [] (cd f A R wr) Q := by
  intro m
  induction m with
  | zero =>
    intro A x4 x5 u6 hI hF gx4 gx5 hpi0 hpi1 hm
    exfalso
    have l0 := zi_lo x5
    have u0 := zi_hi x5
    omega
  | succ m ih =>
    intro A x4 x5 u6 hI hF gx4 gx5 hpi0 hpi1 hm
    have hone_hpi1 : ∀ j : Int, x4.toInt ≤ j → j < x4.toInt + 1 → 0 ≤ ((A0 81).getD j.toNat 0).toInt ∧ ((A0 81).getD j.toNat 0).toInt ≤ 11 := fun j h1 h2 => by rw [← show A 81 = A0 81 from (hF 81 (by decide))]; exact one81 hpi1 hI j h1 h2
    refine pe_iload (j := 5) (by decide +kernel) rfl ?_
    refine pe_bipushv (n := 12) (v := 12) (by decide +kernel) (by decide +kernel) ?_
    refine pz_icmp_ge (off := 62) (t := 132) (by decide +kernel) (by decide) rfl rfl kz_12 (fun h1 => ?_) (fun h1 => ?_)
    · skip
      exact k_132_0 A x4 x5 (u6) hI (fun k n80 => (hF k n80)) (by omega) (by omega)
    · skip
      refine pe_iload (j := 4) (by decide +kernel) rfl ?_
      refine pe_iload_n (j := 1) (by decide +kernel) rfl ?_
      refine pz_icmp_eq (off := 56) (t := 132) (by decide +kernel) (by decide) rfl rfl rfl (fun h2 => ?_) (fun h2 => ?_)
      · skip
        exact k_132_0 A x4 x5 (u6) hI (fun k n80 => (hF k n80)) (by omega) (by omega)
      · skip
        refine pe_aload_n (j := 0) (by decide +kernel) rfl ?_
        refine pe_get (j := 15) (ci := 0) (n := 1) (by decide +kernel) (by decide +kernel) cd_o79 rfl ?_
        refine pe_iload (j := 4) (by decide +kernel) rfl ?_
        refine pz_iald (by decide +kernel) cd_a81 (cl_81 hI) rfl (by omega) (by omega) (fun v3 ev3 => ?_)
        have rv3 : (-1) ≤ v3.toInt ∧ v3.toInt ≤ 11 := ct_81 hI ev3
        rw [show A 81 = A0 81 from (hF 81 (by decide))] at ev3
        have rq4 := hone_hpi1 x4.toInt (by omega) (by omega)
        rw [← ev3] at rq4
        refine pe_istore (j := 6) (ls' := [.ref 79, .int x1, .int x2, .int x3, .int x4, .int x5, .int v3]) (by decide +kernel) (Nat.le_of_ble_eq_true rfl) rfl ?_
        refine pe_aload_n (j := 0) (by decide +kernel) rfl ?_
        refine pe_get (j := 11) (ci := 0) (n := 0) (by decide +kernel) (by decide +kernel) cd_o79 rfl ?_
        refine pe_iload (j := 6) (by decide +kernel) rfl ?_
        refine pe_bipushv (n := 12) (v := 12) (by decide +kernel) (by decide +kernel) ?_
        refine pz_mul (by decide +kernel) rfl kz_12 (by omega) (by omega) (fun z5 hz5 => ?_)
        refine pe_iload (j := 4) (by decide +kernel) rfl ?_
        refine pz_add (by decide +kernel) hz5 rfl (by omega) (by omega) (fun z6 hz6 => ?_)
        clear hz5
        refine pe_dup2 (by decide +kernel) ⟨rfl, rfl⟩ ?_
        refine pz_iald (by decide +kernel) cd_a80 (cl_80 hI) hz6 (by omega) (by omega) (fun v7 ev7 => ?_)
        refine pe_iload_n (j := 3) (by decide +kernel) rfl ?_
        refine pw_sub (by decide +kernel) (fun z8 => ?_)
        refine cz_st80 (by decide +kernel) hI hz6 (by omega) (by omega) (fun A9 eA9 hIA9 => ?_)
        refine pe_aload_n (j := 0) (by decide +kernel) rfl ?_
        refine pe_get (j := 11) (ci := 0) (n := 0) (by decide +kernel) (by decide +kernel) cd_o79 rfl ?_
        refine pe_iload (j := 4) (by decide +kernel) rfl ?_
        refine pe_bipushv (n := 12) (v := 12) (by decide +kernel) (by decide +kernel) ?_
        refine pz_mul (by decide +kernel) rfl kz_12 (by omega) (by omega) (fun z10 hz10 => ?_)
        refine pe_iload (j := 6) (by decide +kernel) rfl ?_
        refine pz_add (by decide +kernel) hz10 rfl (by omega) (by omega) (fun z11 hz11 => ?_)
        clear hz10
        refine pe_dup2 (by decide +kernel) ⟨rfl, rfl⟩ ?_
        refine pz_iald (by decide +kernel) cd_a80 (cl_80 hIA9) hz11 (by omega) (by omega) (fun v12 ev12 => ?_)
        refine pe_iload_n (j := 3) (by decide +kernel) rfl ?_
        refine pw_add (by decide +kernel) (fun z13 => ?_)
        refine cz_st80 (by decide +kernel) hIA9 hz11 (by omega) (by omega) (fun A14 eA14 hIA14 => ?_)
        refine pe_iload (j := 6) (by decide +kernel) rfl ?_
        refine pe_istore (j := 4) (ls' := [.ref 79, .int x1, .int x2, .int x3, .int v3, .int x5, .int v3]) (by decide +kernel) (Nat.le_of_ble_eq_true rfl) rfl ?_
        refine pz_iinc (j := 5) (n := 1) (by decide +kernel) rfl rfl (by decide +kernel) (by omega) (by omega) (fun z15 hz15 => ?_)
        show pmE pg X pg_tyl pg_cl (d) 166 129 [.ref 79, .int x1, .int x2, .int x3, .int v3, .int z15, .int v3] [] (cd f A14 R wr) _
        refine pe_goto (off := (-63)) (t := 66) (by decide +kernel) (by decide) rfl ?_
        exact ih A14 v3 z15 (.int v3) hIA14 (fun k n80 => (upa_fr eA14 n80).trans ((upa_fr eA9 n80).trans ((hF k n80)))) (by omega) (by omega) (by rw [show A14 81 = A0 81 from (upa_fr eA14 (by decide)).trans ((upa_fr eA9 (by decide)).trans ((hF 81 (by decide)))), ← show A 81 = A0 81 from (hF 81 (by decide))]; exact hpi0) (by rw [show A14 81 = A0 81 from (upa_fr eA14 (by decide)).trans ((upa_fr eA9 (by decide)).trans ((hF 81 (by decide)))), ev3, ← show A 81 = A0 81 from (hF 81 (by decide))]; exact hpi0 x4.toInt (by omega) (by omega) hpi1) (by omega)
set_option maxRecDepth 100000 in
set_option maxHeartbeats 8000000 in
theorem CL_166_9 {X : pm_X} {d : Nat} {wr : pm_W} {Q : pm_R → Prop} {f : Nat → Int32} {A : Nat → List Int32} {R : Nat → Value} {x1 x2 : Int32} (hX : XO X) (hI : CI f A R) (gx1 : (0 ≤ x1.toInt ∧ x1.toInt ≤ 11)) (gx2 : (0 ≤ x2.toInt ∧ x2.toInt ≤ 11)) (k_60_0 : ∀ (y3 : Int32) (y4 : Int32) (y5 : Int32), (y3.toInt ≤ 1000000) → (0 ≤ y4.toInt ∧ y4.toInt ≤ 11) → (0 ≤ y5.toInt ∧ y5.toInt ≤ 12) → pmE pg X pg_tyl pg_cl (d) 166 60 [.ref 79, .int x1, .int x2, .int y3, .int y4, .int y5, pm_dead] [] (cd f A R wr) Q) : ∀ (m : Nat) (x3 : Int32) (x4 : Int32) (x5 : Int32), (x3.toInt ≤ 1000000) → (0 ≤ x4.toInt ∧ x4.toInt ≤ 11) → (0 ≤ x5.toInt ∧ x5.toInt ≤ 12) → CV (A 81) → NV (A 81) x4.toInt → 12 - x5.toInt < (m : Int) → pmE pg X pg_tyl pg_cl (d) 166 9 [.ref 79, .int x1, .int x2, .int x3, .int x4, .int x5, pm_dead] [] (cd f A R wr) Q := by
  intro m
  induction m with
  | zero =>
    intro x3 x4 x5 gx3 gx4 gx5 hpi0 hpi1 hm
    exfalso
    have l0 := zi_lo x5
    have u0 := zi_hi x5
    omega
  | succ m ih =>
    intro x3 x4 x5 gx3 gx4 gx5 hpi0 hpi1 hm
    have hone_hpi1 : ∀ j : Int, x4.toInt ≤ j → j < x4.toInt + 1 → 0 ≤ ((A 81).getD j.toNat 0).toInt ∧ ((A 81).getD j.toNat 0).toInt ≤ 11 := fun j h1 h2 => by exact one81 hpi1 hI j h1 h2
    refine pe_iload (j := 5) (by decide +kernel) rfl ?_
    refine pe_bipushv (n := 12) (v := 12) (by decide +kernel) (by decide +kernel) ?_
    refine pz_icmp_ge (off := 47) (t := 60) (by decide +kernel) (by decide) rfl rfl kz_12 (fun h1 => ?_) (fun h1 => ?_)
    · skip
      exact k_60_0 x3 x4 x5 (by omega) (by omega) (by omega)
    · skip
      refine pe_iload (j := 4) (by decide +kernel) rfl ?_
      refine pe_iload_n (j := 1) (by decide +kernel) rfl ?_
      refine pz_icmp_eq (off := 41) (t := 60) (by decide +kernel) (by decide) rfl rfl rfl (fun h2 => ?_) (fun h2 => ?_)
      · skip
        exact k_60_0 x3 x4 x5 (by omega) (by omega) (by omega)
      · skip
        refine pe_iload_n (j := 3) (by decide +kernel) rfl ?_
        refine pe_aload_n (j := 0) (by decide +kernel) rfl ?_
        refine pe_get (j := 11) (ci := 0) (n := 0) (by decide +kernel) (by decide +kernel) cd_o79 rfl ?_
        refine pe_aload_n (j := 0) (by decide +kernel) rfl ?_
        refine pe_get (j := 15) (ci := 0) (n := 1) (by decide +kernel) (by decide +kernel) cd_o79 rfl ?_
        refine pe_iload (j := 4) (by decide +kernel) rfl ?_
        refine pz_iald (by decide +kernel) cd_a81 (cl_81 hI) rfl (by omega) (by omega) (fun v3 ev3 => ?_)
        have rv3 : (-1) ≤ v3.toInt ∧ v3.toInt ≤ 11 := ct_81 hI ev3
        have rq4 := hone_hpi1 x4.toInt (by omega) (by omega)
        rw [← ev3] at rq4
        refine pe_bipushv (n := 12) (v := 12) (by decide +kernel) (by decide +kernel) ?_
        refine pz_mul (by decide +kernel) rfl kz_12 (by omega) (by omega) (fun z5 hz5 => ?_)
        refine pe_iload (j := 4) (by decide +kernel) rfl ?_
        refine pz_add (by decide +kernel) hz5 rfl (by omega) (by omega) (fun z6 hz6 => ?_)
        clear hz5
        refine pz_iald (by decide +kernel) cd_a80 (cl_80 hI) hz6 (by omega) (by omega) (fun v7 ev7 => ?_)
        clear hz6
        have lw9 := zi_lo x3
        have uw9 := zi_hi x3
        have lw10 := zi_lo v7
        have uw10 := zi_hi v7
        refine pz_min (j := 36) (c := (-2147483648)) (by decide +kernel) (by decide +kernel) (Nat.le_of_ble_eq_true rfl) rfl rfl (by omega) (by omega) (fun z8 hz8 => ?_)
        refine pe_istore_n (j := 3) (ls' := [.ref 79, .int x1, .int x2, .int z8, .int x4, .int x5, pm_dead]) (by decide +kernel) (Nat.le_of_ble_eq_true rfl) rfl ?_
        refine pe_aload_n (j := 0) (by decide +kernel) rfl ?_
        refine pe_get (j := 15) (ci := 0) (n := 1) (by decide +kernel) (by decide +kernel) cd_o79 rfl ?_
        refine pe_iload (j := 4) (by decide +kernel) rfl ?_
        refine pz_iald (by decide +kernel) cd_a81 (cl_81 hI) rfl (by omega) (by omega) (fun v11 ev11 => ?_)
        rw [ev11.trans ev3.symm]
        clear ev11 v11
        refine pe_istore (j := 4) (ls' := [.ref 79, .int x1, .int x2, .int z8, .int v3, .int x5, pm_dead]) (by decide +kernel) (Nat.le_of_ble_eq_true rfl) rfl ?_
        refine pz_iinc (j := 5) (n := 1) (by decide +kernel) rfl rfl (by decide +kernel) (by omega) (by omega) (fun z12 hz12 => ?_)
        show pmE pg X pg_tyl pg_cl (d) 166 57 [.ref 79, .int x1, .int x2, .int z8, .int v3, .int z12, pm_dead] [] (cd f A R wr) _
        refine pe_goto (off := (-48)) (t := 9) (by decide +kernel) (by decide) rfl ?_
        exact ih z8 v3 z12 (by omega) (by omega) (by omega) hpi0 (by rw [ev3]; exact hpi0 x4.toInt (by omega) (by omega) hpi1) (by omega)
set_option maxRecDepth 100000 in
set_option maxHeartbeats 8000000 in
theorem CM_166 {X : pm_X} {d : Nat} {wr : pm_W} {f : Nat → Int32} {A : Nat → List Int32} {R : Nat → Value} {x1 x2 : Int32} (hX : XO X) (hI : CI f A R) (gx1 : (0 ≤ x1.toInt ∧ x1.toInt ≤ 11)) (gx2 : (0 ≤ x2.toInt ∧ x2.toInt ≤ 11)) (hpp0 : CV (A 81)) (hpp1 : NV (A 81) x2.toInt) : pmE pg X pg_tyl pg_cl (d) 166 0 (pm_ent (pm_max pg 166) [.ref 79, .int x1, .int x2]) [] (cd f A R wr) (fun q => ∃ (A' : Nat → List Int32) (r : Int32), q = (some (.int r), cd f A' R wr, 0, 0) ∧ CI f A' R ∧ (∀ k : Nat, k ≠ 80 → A' k = A k) ∧ (((r.toInt ≤ 1000000) ∧ True))) := by
  show pmE pg X pg_tyl pg_cl (d) 166 0 [.ref 79, .int x1, .int x2, pm_dead, pm_dead, pm_dead, pm_dead] [] (cd f A R wr) _
  refine pe_ldc (j := 27) (v := 1000000) (by decide +kernel) (by decide +kernel) ?_
  refine pe_istore_n (j := 3) (ls' := [.ref 79, .int x1, .int x2, .int 1000000, pm_dead, pm_dead, pm_dead]) (by decide +kernel) (Nat.le_of_ble_eq_true rfl) rfl ?_
  refine pe_iload_n (j := 2) (by decide +kernel) rfl ?_
  refine pe_istore (j := 4) (ls' := [.ref 79, .int x1, .int x2, .int 1000000, .int x2, pm_dead, pm_dead]) (by decide +kernel) (Nat.le_of_ble_eq_true rfl) rfl ?_
  refine pe_iconstv (n := 0) (v := 0) (by decide +kernel) (by decide +kernel) ?_
  refine pe_istore (j := 5) (ls' := [.ref 79, .int x1, .int x2, .int 1000000, .int x2, .int 0, pm_dead]) (by decide +kernel) (Nat.le_of_ble_eq_true rfl) rfl ?_
  refine CL_166_9 hX hI (by omega) (by omega) (fun y1 y2 y3 gy1 gy2 gy3 => ?_) 13 1000000 x2 0 (by decide +kernel) (by omega) (by decide +kernel) hpp0 hpp1 (by decide +kernel)
  refine pe_iload_n (j := 2) (by decide +kernel) rfl ?_
  refine pe_istore (j := 4) (ls' := [.ref 79, .int x1, .int x2, .int y1, .int x2, .int y3, pm_dead]) (by decide +kernel) (Nat.le_of_ble_eq_true rfl) rfl ?_
  refine pe_iconstv (n := 0) (v := 0) (by decide +kernel) (by decide +kernel) ?_
  refine pe_istore (j := 5) (ls' := [.ref 79, .int x1, .int x2, .int y1, .int x2, .int 0, pm_dead]) (by decide +kernel) (Nat.le_of_ble_eq_true rfl) rfl ?_
  refine CL_166_66 hX (by omega) (by omega) (by omega) (fun A4 y5 y6 u7 hIy8 hFA4 gy5 gy6 => ?_) 13 A x2 0 (pm_dead) hI (fun k _ => rfl) (by omega) (by decide +kernel) hpp0 hpp1 (by decide +kernel)
  refine pe_iload_n (j := 3) (by decide +kernel) rfl ?_
  exact pe_iret (by decide +kernel) rfl rfl ⟨A4, y1, rfl, hIy8, (fun k n80 => (hFA4 k n80)), ⟨(by omega), trivial⟩⟩
set_option maxRecDepth 100000 in
set_option maxHeartbeats 8000000 in
theorem CL_164_5 {X : pm_X} {d : Nat} {wr : pm_W} {Q : pm_R → Prop} {f : Nat → Int32} {A0 : Nat → List Int32} {R : Nat → Value} {x1 x2 : Int32} (hX : XO X) (gx1 : (0 ≤ x1.toInt ∧ x1.toInt ≤ 11)) (gx2 : (0 ≤ x2.toInt ∧ x2.toInt ≤ 11)) (k_38_0 : ∀ (A' : Nat → List Int32) (y3 : Int32) (y4 : Int32), CI f A' R → (∀ k : Nat, k ≠ 80 → k ≠ 81 → k ≠ 82 → A' k = A0 k) → (1000000 ≤ y4.toInt ∧ y4.toInt ≤ 1000000) → pmE pg X pg_tyl pg_cl (d + 2) 164 38 [.ref 79, .int x1, .int x2, .int y3, .int y4] [] (cd f A' R wr) Q) (kr_v : ∀ (A' : Nat → List Int32) (r : Int32), CI f A' R → (∀ k : Nat, k ≠ 80 → k ≠ 81 → k ≠ 82 → A' k = A0 k) → Q (some (.int r), cd f A' R wr, 0, 0)) : ∀ (m : Nat) (A : Nat → List Int32) (x3 : Int32) (x4 : Int32), CI f A R → (∀ k : Nat, k ≠ 80 → k ≠ 81 → k ≠ 82 → A k = A0 k) → (0 ≤ x4.toInt ∧ x4.toInt ≤ 1000000) → 1000000 - x4.toInt < (m : Int) → pmE pg X pg_tyl pg_cl (d + 2) 164 5 [.ref 79, .int x1, .int x2, .int x3, .int x4] [] (cd f A R wr) Q := by
  intro m
  induction m with
  | zero =>
    intro A x3 x4 hI hF gx4 hm
    exfalso
    have l0 := zi_lo x4
    have u0 := zi_hi x4
    omega
  | succ m ih =>
    intro A x3 x4 hI hF gx4 hm
    refine pe_iload (j := 4) (by decide +kernel) rfl ?_
    refine pe_ldc (j := 27) (v := 1000000) (by decide +kernel) (by decide +kernel) ?_
    refine pz_icmp_ge (off := 29) (t := 38) (by decide +kernel) (by decide) rfl rfl kz_1000000 (fun h1 => ?_) (fun h1 => ?_)
    · skip
      exact k_38_0 A x3 x4 hI (fun k n80 n81 n82 => (hF k n80 n81 n82)) (by omega)
    · skip
      refine pe_aload_n (j := 0) (by decide +kernel) rfl ?_
      refine pe_iload_n (j := 1) (by decide +kernel) rfl ?_
      refine pe_iload_n (j := 2) (by decide +kernel) rfl ?_
      refine pz_callV (j := 28) (mj := 165) (by decide +kernel) (cll_V (args := [.int x2, .int x1]) (n := 2) (by decide +kernel) rfl rfl cd_o79 (by decide +kernel) (Nat.le_of_ble_eq_true rfl) (Nat.le_of_ble_eq_true rfl)) (CM_165 hX hI (by omega) (by omega)) (fun q2a q2b q2c q2d hqq2 => ?_)
      obtain ⟨A3, rq2, eq2, hIq2, hFq2, kq2⟩ := hqq2
      cases eq2
      refine ⟨rfl, rfl, ?_⟩
      rcases kq2 with kq2 | kq2
      · skip
        obtain ⟨erq2, kq2⟩ := kq2
        subst erq2
        obtain ⟨hp4, kq2⟩ := kq2
        show pmE pg X pg_tyl pg_cl (d + 2) 164 18 [.ref 79, .int x1, .int x2, .int x3, .int x4] [.int 1] (cd f A3 R wr) _
        refine pz_if_ne (off := 5) (t := 23) (by decide +kernel) (by decide) rfl kz_1 (fun h5 => ?_) (fun h5 => by omega)
        refine pe_iload_n (j := 3) (by decide +kernel) rfl ?_
        refine pe_aload_n (j := 0) (by decide +kernel) rfl ?_
        refine pe_iload_n (j := 1) (by decide +kernel) rfl ?_
        refine pe_iload_n (j := 2) (by decide +kernel) rfl ?_
        refine pz_callV (j := 32) (mj := 166) (by decide +kernel) (cll_V (args := [.int x2, .int x1]) (n := 2) (by decide +kernel) rfl rfl cd_o79 (by decide +kernel) (Nat.le_of_ble_eq_true rfl) (Nat.le_of_ble_eq_true rfl)) (CM_166 hX hIq2 (by omega) (by omega) (hp4).1 (hp4).2) (fun q6a q6b q6c q6d hqq6 => ?_)
        obtain ⟨A7, rq6, eq6, hIq6, hFq6, kq6⟩ := hqq6
        cases eq6
        refine ⟨rfl, rfl, ?_⟩
        show pmE pg X pg_tyl pg_cl (d + 2) 164 30 [.ref 79, .int x1, .int x2, .int x3, .int x4] [.int rq6, .int x3] (cd f A7 R wr) _
        refine pw_add (by decide +kernel) (fun z8 => ?_)
        refine pe_istore_n (j := 3) (ls' := [.ref 79, .int x1, .int x2, .int z8, .int x4]) (by decide +kernel) (Nat.le_of_ble_eq_true rfl) rfl ?_
        refine pz_iinc (j := 4) (n := 1) (by decide +kernel) rfl rfl (by decide +kernel) (by omega) (by omega) (fun z9 hz9 => ?_)
        show pmE pg X pg_tyl pg_cl (d + 2) 164 35 [.ref 79, .int x1, .int x2, .int z8, .int z9] [] (cd f A7 R wr) _
        refine pe_goto (off := (-30)) (t := 5) (by decide +kernel) (by decide) rfl ?_
        exact ih A7 z8 z9 hIq6 (fun k n80 n81 n82 => ((hFq6 k n80)).trans (((hFq2 k n81 n82)).trans ((hF k n80 n81 n82)))) (by omega) (by omega)
      · skip
        obtain ⟨erq2, kq2⟩ := kq2
        subst erq2
        show pmE pg X pg_tyl pg_cl (d + 2) 164 18 [.ref 79, .int x1, .int x2, .int x3, .int x4] [.int 0] (cd f A3 R wr) _
        refine pz_if_ne (off := 5) (t := 23) (by decide +kernel) (by decide) rfl kz_0 (fun h10 => by omega) (fun h10 => ?_)
        refine pe_iload_n (j := 3) (by decide +kernel) rfl ?_
        exact pe_iret (by decide +kernel) rfl rfl (kr_v A3 x3 hIq2 (fun k n80 n81 n82 => ((hFq2 k n81 n82)).trans ((hF k n80 n81 n82))))
set_option maxRecDepth 100000 in
set_option maxHeartbeats 8000000 in
theorem CM_164 {X : pm_X} {d : Nat} {wr : pm_W} {f : Nat → Int32} {A : Nat → List Int32} {R : Nat → Value} {x1 x2 : Int32} (hX : XO X) (hI : CI f A R) (gx1 : (0 ≤ x1.toInt ∧ x1.toInt ≤ 11)) (gx2 : (0 ≤ x2.toInt ∧ x2.toInt ≤ 11)) : pmE pg X pg_tyl pg_cl (d + 2) 164 0 (pm_ent (pm_max pg 164) [.ref 79, .int x1, .int x2]) [] (cd f A R wr) (fun q => ∃ (A' : Nat → List Int32) (r : Int32), q = (some (.int r), cd f A' R wr, 0, 0) ∧ CI f A' R ∧ (∀ k : Nat, k ≠ 80 → k ≠ 81 → k ≠ 82 → A' k = A k) ∧ ((True ∧ True))) := by
  show pmE pg X pg_tyl pg_cl (d + 2) 164 0 [.ref 79, .int x1, .int x2, pm_dead, pm_dead] [] (cd f A R wr) _
  refine pe_iconstv (n := 0) (v := 0) (by decide +kernel) (by decide +kernel) ?_
  refine pe_istore_n (j := 3) (ls' := [.ref 79, .int x1, .int x2, .int 0, pm_dead]) (by decide +kernel) (Nat.le_of_ble_eq_true rfl) rfl ?_
  refine pe_iconstv (n := 0) (v := 0) (by decide +kernel) (by decide +kernel) ?_
  refine pe_istore (j := 4) (ls' := [.ref 79, .int x1, .int x2, .int 0, .int 0]) (by decide +kernel) (Nat.le_of_ble_eq_true rfl) rfl ?_
  refine CL_164_5 hX (by omega) (by omega) (fun A1 y2 y3 hIy4 hFA1 gy3 => ?_) (fun A5 r6 hIy7 hFA5 => ⟨A5, r6, rfl, hIy7, (fun k n80 n81 n82 => (hFA5 k n80 n81 n82)), ⟨trivial, trivial⟩⟩) 1000001 A 0 0 hI (fun k _ _ _ => rfl) (by decide +kernel) (by decide +kernel)
  refine pe_iload_n (j := 3) (by decide +kernel) rfl ?_
  exact pe_iret (by decide +kernel) rfl rfl ⟨A1, y2, rfl, hIy4, (fun k n80 n81 n82 => (hFA1 k n80 n81 n82)), ⟨trivial, trivial⟩⟩
set_option maxRecDepth 100000 in
set_option maxHeartbeats 8000000 in
theorem CL_160_34 {X : pm_X} {d : Nat} {wr : pm_W} {Q : pm_R → Prop} {f : Nat → Int32} {A0 : Nat → List Int32} {R : Nat → Value} {x2 : Int32} {v : Nat} (hX : XO X) (hv : VV v) (hR3 : R 3 = .ref v) (gx2 : (0 ≤ x2.toInt ∧ x2.toInt ≤ 6)) (k_70_0 : ∀ (A' : Nat → List Int32) (y3 : Int32), CI f A' R → (∀ k : Nat, k ≠ 77 → A' k = A0 k) → (1 ≤ y3.toInt ∧ y3.toInt ≤ 64) → pmE pg X pg_tyl pg_cl (d + 1) 160 70 [.ref 68, .ref v, .int x2, .int y3] [] (cd f A' R wr) Q) : ∀ (m : Nat) (A : Nat → List Int32) (x3 : Int32), CI f A R → (∀ k : Nat, k ≠ 77 → A k = A0 k) → (0 ≤ x3.toInt ∧ x3.toInt ≤ 64) → 64 - x3.toInt < (m : Int) → pmE pg X pg_tyl pg_cl (d + 1) 160 34 [.ref 68, .ref v, .int x2, .int x3] [] (cd f A R wr) Q := by
  have bv := VV_b hv
  intro m
  induction m with
  | zero =>
    intro A x3 hI hF gx3 hm
    exfalso
    have l0 := zi_lo x3
    have u0 := zi_hi x3
    omega
  | succ m ih =>
    intro A x3 hI hF gx3 hm
    refine pe_iload_n (j := 3) (by decide +kernel) rfl ?_
    refine pe_iconstv (n := 1) (v := 1) (by decide +kernel) (by decide +kernel) ?_
    refine pe_iload_n (j := 2) (by decide +kernel) rfl ?_
    refine pz_shl6 (by decide +kernel) rfl (by omega) (by omega) (fun z1 hz1 => ?_)
    refine pz_icmp_ge (off := 32) (t := 70) (by decide +kernel) (by decide) rfl rfl rfl (fun h2 => ?_) (fun h2 => ?_)
    · skip
      exact k_70_0 A x3 hI (fun k n77 => (hF k n77)) (by omega)
    · skip
      refine pe_aload_n (j := 0) (by decide +kernel) rfl ?_
      refine pe_get (j := 28) (ci := 10) (n := 4) (by decide +kernel) (by decide +kernel) cd_o68 rfl ?_
      refine pe_iload_n (j := 3) (by decide +kernel) rfl ?_
      refine pe_iconstv (n := 1) (v := 1) (by decide +kernel) (by decide +kernel) ?_
      refine pe_iload_n (j := 2) (by decide +kernel) rfl ?_
      refine pz_shl6 (by decide +kernel) rfl (by omega) (by omega) (fun z3 hz3 => ?_)
      refine pz_or7 (by decide +kernel) rfl rfl (by omega) (by omega) (by omega) (by omega) (fun z4 hz4 => ?_)
      refine pe_aload_n (j := 0) (by decide +kernel) rfl ?_
      refine pe_get (j := 28) (ci := 10) (n := 4) (by decide +kernel) (by decide +kernel) cd_o68 rfl ?_
      refine pe_iload_n (j := 3) (by decide +kernel) rfl ?_
      refine pz_iald (by decide +kernel) cd_a77 (cl_77 hI) rfl (by omega) (by omega) (fun v5 ev5 => ?_)
      refine pe_aload_n (j := 1) (by decide +kernel) rfl ?_
      refine pe_iload_n (j := 2) (by decide +kernel) rfl ?_
      refine pe_iconstv (n := 3) (v := 3) (by decide +kernel) (by decide +kernel) ?_
      refine pi_V (j := 66) (mj := 65) (by decide +kernel) (cll_V (args := [.int 3, .int x2]) (n := 2) (by decide +kernel) rfl rfl (cv_o hv) (by decide +kernel) (Nat.le_of_ble_eq_true rfl) (Nat.le_of_ble_eq_true rfl)) ?_
      show pmE pg X pg_tyl pg_cl (d) 65 0 [.ref v, .int x2, .int 3] [] (cd f A R wr) _
      refine pe_aload_n (j := 0) (by decide +kernel) rfl ?_
      refine pe_get (j := 25) (ci := 9) (n := 6) (by decide +kernel) (by decide +kernel) (cv_o hv) rfl ?_
      refine pe_iload_n (j := 1) (by decide +kernel) rfl ?_
      refine pe_iconstv (n := 4) (v := 4) (by decide +kernel) (by decide +kernel) ?_
      refine pz_mul (by decide +kernel) rfl kz_4 (by omega) (by omega) (fun z6 hz6 => ?_)
      refine pe_iload_n (j := 2) (by decide +kernel) rfl ?_
      refine pz_add (by decide +kernel) hz6 kz_3 (by omega) (by omega) (fun z7 hz7 => ?_)
      clear hz6
      refine pz_iald (by decide +kernel) (cv_a4 hv) (cv_l4 hv hI) hz7 (by omega) (by omega) (fun v8 ev8 => ?_)
      rw [show A (v + 4) = A0 (v + 4) from (hF (v + 4) (by omega))] at ev8
      clear hz7
      refine pe_iret (by decide +kernel) rfl rfl ⟨rfl, rfl, ?_⟩
      show pmE pg X pg_tyl pg_cl (d + 1) 160 62 [.ref 68, .ref v, .int x2, .int x3] [.int v8, .int v5, .int z4, .ref 77] (cd f A R wr) _
      refine pw_add (by decide +kernel) (fun z9 => ?_)
      refine cz_st77 (by decide +kernel) hI rfl (by omega) (by omega) (fun A10 eA10 hIA10 => ?_)
      refine pz_iinc (j := 3) (n := 1) (by decide +kernel) rfl rfl (by decide +kernel) (by omega) (by omega) (fun z11 hz11 => ?_)
      show pmE pg X pg_tyl pg_cl (d + 1) 160 67 [.ref 68, .ref v, .int x2, .int z11] [] (cd f A10 R wr) _
      refine pe_goto (off := (-33)) (t := 34) (by decide +kernel) (by decide) rfl ?_
      exact ih A10 z11 hIA10 (fun k n77 => (upa_fr eA10 n77).trans ((hF k n77))) (by omega) (by omega)
set_option maxRecDepth 100000 in
set_option maxHeartbeats 8000000 in
theorem CL_160_24 {X : pm_X} {d : Nat} {wr : pm_W} {Q : pm_R → Prop} {f : Nat → Int32} {A0 : Nat → List Int32} {R : Nat → Value} {v : Nat} (hX : XO X) (hv : VV v) (hR3 : R 3 = .ref v) (k_76_0 : ∀ (A' : Nat → List Int32) (y2 : Int32) (v3 : Value), CI f A' R → (∀ k : Nat, k ≠ 77 → A' k = A0 k) → (0 ≤ y2.toInt ∧ y2.toInt ≤ 7) → pmE pg X pg_tyl pg_cl (d + 1) 160 76 [.ref 68, .ref v, .int y2, v3] [] (cd f A' R wr) Q) : ∀ (m : Nat) (A : Nat → List Int32) (x2 : Int32) (u3 : Value), CI f A R → (∀ k : Nat, k ≠ 77 → A k = A0 k) → (0 ≤ x2.toInt ∧ x2.toInt ≤ 7) → 7 - x2.toInt < (m : Int) → pmE pg X pg_tyl pg_cl (d + 1) 160 24 [.ref 68, .ref v, .int x2, u3] [] (cd f A R wr) Q := by
  have bv := VV_b hv
  intro m
  induction m with
  | zero =>
    intro A x2 u3 hI hF gx2 hm
    exfalso
    have l0 := zi_lo x2
    have u0 := zi_hi x2
    omega
  | succ m ih =>
    intro A x2 u3 hI hF gx2 hm
    refine pe_iload_n (j := 2) (by decide +kernel) rfl ?_
    refine pe_aload_n (j := 1) (by decide +kernel) rfl ?_
    refine pe_get (j := 60) (ci := 9) (n := 2) (by decide +kernel) (by decide +kernel) (cv_o hv) rfl ?_
    have hr_f_16v2 := cv_wants hv hI
    refine pz_icmp_ge (off := 47) (t := 76) (by decide +kernel) (by decide) rfl rfl rfl (fun h1 => ?_) (fun h1 => ?_)
    · skip
      exact k_76_0 A x2 (u3) hI (fun k n77 => (hF k n77)) (by omega)
    · skip
      refine pe_iconstv (n := 0) (v := 0) (by decide +kernel) (by decide +kernel) ?_
      refine pe_istore_n (j := 3) (ls' := [.ref 68, .ref v, .int x2, .int 0]) (by decide +kernel) (Nat.le_of_ble_eq_true rfl) rfl ?_
      refine CL_160_34 hX hv (hR3) (by omega) (fun A2 y3 hIy4 hFA2 gy3 => ?_) 65 A 0 hI (fun k _ => rfl) (by decide +kernel) (by decide +kernel)
      refine pz_iinc (j := 2) (n := 1) (by decide +kernel) rfl rfl (by decide +kernel) (by omega) (by omega) (fun z5 hz5 => ?_)
      show pmE pg X pg_tyl pg_cl (d + 1) 160 73 [.ref 68, .ref v, .int z5, .int y3] [] (cd f A2 R wr) _
      refine pe_goto (off := (-49)) (t := 24) (by decide +kernel) (by decide) rfl ?_
      exact ih A2 z5 (.int y3) hIy4 (fun k n77 => ((hFA2 k n77)).trans ((hF k n77))) (by omega) (by omega)
set_option maxRecDepth 100000 in
set_option maxHeartbeats 8000000 in
theorem CM_160 {X : pm_X} {d : Nat} {wr : pm_W} {f : Nat → Int32} {A : Nat → List Int32} {R : Nat → Value} {v : Nat} (hX : XO X) (hI : CI f A R) (hv : VV v) : pmE pg X pg_tyl pg_cl (d + 1) 160 0 (pm_ent (pm_max pg 160) [.ref 68, .ref v]) [] (cd f A R wr) (fun q => ∃ (f' : Nat → Int32) (A' : Nat → List Int32) (R' : Nat → Value), q = (none, cd f' A' R' wr, 0, 0) ∧ CI f' A' R' ∧ (∀ k : Nat, k ≠ 1095 → f' k = f k) ∧ (∀ k : Nat, k ≠ 77 → A' k = A k) ∧ (∀ k : Nat, k ≠ 3 → R' k = R k) ∧ R' 3 = .ref v ∧ ((True))) := by
  have bv := VV_b hv
  show pmE pg X pg_tyl pg_cl (d + 1) 160 0 [.ref 68, .ref v, pm_dead, pm_dead] [] (cd f A R wr) _
  refine pe_aload_n (j := 0) (by decide +kernel) rfl ?_
  refine pe_aload_n (j := 1) (by decide +kernel) rfl ?_
  refine cz_putR3 (jj := 12) (ty := (.object "RingVillage$Village")) (by decide +kernel) (by decide +kernel) hI pm_fit_obj ⟨_, rfl⟩ (fun R1 eR1 hIR1 => ?_)
  refine pe_aload_n (j := 0) (by decide +kernel) rfl ?_
  refine pe_iconstv (n := 1) (v := 1) (by decide +kernel) (by decide +kernel) ?_
  refine pe_aload_n (j := 1) (by decide +kernel) rfl ?_
  refine pe_get (j := 60) (ci := 9) (n := 2) (by decide +kernel) (by decide +kernel) (cv_o hv) rfl ?_
  have hr_f_16v2 := cv_wants hv hI
  refine pz_shl7 (by decide +kernel) rfl (by omega) (by omega) (fun z2 hz2 => ?_)
  refine cz_put1095 (jj := 63) (by decide +kernel) (by decide +kernel) hIR1 (by omega) (by omega) (fun f3 ef3 hIf3 => ?_)
  refine pe_aload_n (j := 0) (by decide +kernel) rfl ?_
  refine pe_get (j := 28) (ci := 10) (n := 4) (by decide +kernel) (by decide +kernel) cd_o68 rfl ?_
  refine pe_iconstv (n := 0) (v := 0) (by decide +kernel) (by decide +kernel) ?_
  refine pe_iconstv (n := 0) (v := 0) (by decide +kernel) (by decide +kernel) ?_
  refine cz_st77 (by decide +kernel) hIf3 kz_0 (by omega) (by omega) (fun A4 eA4 hIA4 => ?_)
  refine pe_iconstv (n := 0) (v := 0) (by decide +kernel) (by decide +kernel) ?_
  refine pe_istore_n (j := 2) (ls' := [.ref 68, .ref v, .int 0, pm_dead]) (by decide +kernel) (Nat.le_of_ble_eq_true rfl) rfl ?_
  refine CL_160_24 hX hv (upr_at eR1) (fun A5 y6 u7 hIy8 hFA5 gy6 => ?_) 8 A4 0 (pm_dead) hIA4 (fun k _ => rfl) (by decide +kernel) (by decide +kernel)
  exact pe_vret (by decide +kernel) rfl ⟨f3, A5, R1, rfl, hIy8, (fun k n1095 => upf_fr ef3 n1095), (fun k n77 => ((hFA5 k n77)).trans (upa_fr eA4 n77)), (fun k n3 => upr_fr eR1 n3), upr_at eR1, trivial⟩
set_option maxRecDepth 100000 in
set_option maxHeartbeats 8000000 in
theorem CL_159_23 {X : pm_X} {d : Nat} {wr : pm_W} {Q : pm_R → Prop} {f : Nat → Int32} {A0 : Nat → List Int32} {R : Nat → Value} {x2 : Int32} {v : Nat} (hX : XO X) (hv : VV v) (hR0 : R 0 = .ref v) (hR3 : R 3 = .ref v) (gx2 : (0 ≤ x2.toInt ∧ x2.toInt ≤ 8)) (k_56_0 : ∀ (A' : Nat → List Int32) (y3 : Int32), CI f A' R → (∀ k : Nat, k ≠ 74 → A' k = A0 k) → (0 ≤ y3.toInt ∧ y3.toInt ≤ 9) → pmE pg X pg_tyl pg_cl (d + 2) 159 56 [.ref 68, .ref 33, .int x2, .int y3] [] (cd f A' R wr) Q) : ∀ (m : Nat) (A : Nat → List Int32) (x3 : Int32), CI f A R → (∀ k : Nat, k ≠ 74 → A k = A0 k) → (0 ≤ x3.toInt ∧ x3.toInt ≤ 9) → 9 - x3.toInt < (m : Int) → pmE pg X pg_tyl pg_cl (d + 2) 159 23 [.ref 68, .ref 33, .int x2, .int x3] [] (cd f A R wr) Q := by
  have bv := VV_b hv
  intro m
  induction m with
  | zero =>
    intro A x3 hI hF gx3 hm
    exfalso
    have l0 := zi_lo x3
    have u0 := zi_hi x3
    omega
  | succ m ih =>
    intro A x3 hI hF gx3 hm
    refine pe_iload_n (j := 3) (by decide +kernel) rfl ?_
    refine pe_aload_n (j := 0) (by decide +kernel) rfl ?_
    refine pe_get (j := 12) (ci := 10) (n := 0) (by decide +kernel) (by decide +kernel) cd_o68 rfl ?_
    refine pe_topV (v := .ref v) (hR3) ?_
    refine pe_get (j := 49) (ci := 9) (n := 0) (by decide +kernel) (by decide +kernel) (cv_o hv) rfl ?_
    have hr_f_16v := cv_people hv hI
    refine pz_icmp_ge (off := 25) (t := 56) (by decide +kernel) (by decide) rfl rfl rfl (fun h1 => ?_) (fun h1 => ?_)
    · skip
      exact k_56_0 A x3 hI (fun k n74 => (hF k n74)) (by omega)
    · skip
      refine pe_aload_n (j := 0) (by decide +kernel) rfl ?_
      refine pe_get (j := 18) (ci := 10) (n := 1) (by decide +kernel) (by decide +kernel) cd_o68 rfl ?_
      refine pe_iload_n (j := 2) (by decide +kernel) rfl ?_
      refine pe_iload_n (j := 3) (by decide +kernel) rfl ?_
      refine pi_S (j := 53) (mj := 52) (by decide +kernel) (by decide +kernel) rfl ?_
      show pmE pg X pg_tyl pg_cl (d + 1) 52 0 [.int x2, .int x3] [] (cd f A R wr) _
      refine pe_iload_n (j := 0) (by decide +kernel) rfl ?_
      refine pe_bipushv (n := 9) (v := 9) (by decide +kernel) (by decide +kernel) ?_
      refine pz_mul (by decide +kernel) rfl kz_9 (by omega) (by omega) (fun z2 hz2 => ?_)
      refine pe_iload_n (j := 1) (by decide +kernel) rfl ?_
      refine pz_add (by decide +kernel) hz2 rfl (by omega) (by omega) (fun z3 hz3 => ?_)
      clear hz2
      refine pe_iret (by decide +kernel) rfl rfl ⟨rfl, rfl, ?_⟩
      show pmE pg X pg_tyl pg_cl (d + 2) 159 43 [.ref 68, .ref 33, .int x2, .int x3] [.int z3, .ref 74] (cd f A R wr) _
      refine pe_aload_n (j := 1) (by decide +kernel) rfl ?_
      refine pe_iload_n (j := 2) (by decide +kernel) rfl ?_
      refine pe_iload_n (j := 3) (by decide +kernel) rfl ?_
      refine pz_callV (j := 57) (mj := 77) (by decide +kernel) (cll_V (args := [.int x3, .int x2]) (n := 2) (by decide +kernel) rfl rfl cd_o33 (by decide +kernel) (Nat.le_of_ble_eq_true rfl) (Nat.le_of_ble_eq_true rfl)) (CM_77 hX hI hv (hR0) (by omega) (by omega)) (fun q4a q4b q4c q4d hqq4 => ?_)
      obtain ⟨rq4, eq4, kq4⟩ := hqq4
      cases eq4
      refine ⟨rfl, rfl, ?_⟩
      show pmE pg X pg_tyl pg_cl (d + 2) 159 49 [.ref 68, .ref 33, .int x2, .int x3] [.int rq4, .int z3, .ref 74] (cd f A R wr) _
      refine cz_st74 (by decide +kernel) hI hz3 (by omega) (by omega) (fun A5 eA5 hIA5 => ?_)
      refine pz_iinc (j := 3) (n := 1) (by decide +kernel) rfl rfl (by decide +kernel) (by omega) (by omega) (fun z6 hz6 => ?_)
      show pmE pg X pg_tyl pg_cl (d + 2) 159 53 [.ref 68, .ref 33, .int x2, .int z6] [] (cd f A5 R wr) _
      refine pe_goto (off := (-30)) (t := 23) (by decide +kernel) (by decide) rfl ?_
      exact ih A5 z6 hIA5 (fun k n74 => (upa_fr eA5 n74).trans ((hF k n74))) (by omega) (by omega)
set_option maxRecDepth 100000 in
set_option maxHeartbeats 8000000 in
theorem CL_159_10 {X : pm_X} {d : Nat} {wr : pm_W} {Q : pm_R → Prop} {f : Nat → Int32} {A0 : Nat → List Int32} {R : Nat → Value} {v : Nat} (hX : XO X) (hv : VV v) (hR0 : R 0 = .ref v) (hR3 : R 3 = .ref v) (k_62_0 : ∀ (A' : Nat → List Int32) (y2 : Int32) (v3 : Value), CI f A' R → (∀ k : Nat, k ≠ 74 → A' k = A0 k) → (0 ≤ y2.toInt ∧ y2.toInt ≤ 9) → pmE pg X pg_tyl pg_cl (d + 2) 159 62 [.ref 68, .ref 33, .int y2, v3] [] (cd f A' R wr) Q) : ∀ (m : Nat) (A : Nat → List Int32) (x2 : Int32) (u3 : Value), CI f A R → (∀ k : Nat, k ≠ 74 → A k = A0 k) → (0 ≤ x2.toInt ∧ x2.toInt ≤ 9) → 9 - x2.toInt < (m : Int) → pmE pg X pg_tyl pg_cl (d + 2) 159 10 [.ref 68, .ref 33, .int x2, u3] [] (cd f A R wr) Q := by
  have bv := VV_b hv
  intro m
  induction m with
  | zero =>
    intro A x2 u3 hI hF gx2 hm
    exfalso
    have l0 := zi_lo x2
    have u0 := zi_hi x2
    omega
  | succ m ih =>
    intro A x2 u3 hI hF gx2 hm
    refine pe_iload_n (j := 2) (by decide +kernel) rfl ?_
    refine pe_aload_n (j := 0) (by decide +kernel) rfl ?_
    refine pe_get (j := 12) (ci := 10) (n := 0) (by decide +kernel) (by decide +kernel) cd_o68 rfl ?_
    refine pe_topV (v := .ref v) (hR3) ?_
    refine pe_get (j := 49) (ci := 9) (n := 0) (by decide +kernel) (by decide +kernel) (cv_o hv) rfl ?_
    have hr_f_16v := cv_people hv hI
    refine pz_icmp_ge (off := 44) (t := 62) (by decide +kernel) (by decide) rfl rfl rfl (fun h1 => ?_) (fun h1 => ?_)
    · skip
      exact k_62_0 A x2 (u3) hI (fun k n74 => (hF k n74)) (by omega)
    · skip
      refine pe_iconstv (n := 0) (v := 0) (by decide +kernel) (by decide +kernel) ?_
      refine pe_istore_n (j := 3) (ls' := [.ref 68, .ref 33, .int x2, .int 0]) (by decide +kernel) (Nat.le_of_ble_eq_true rfl) rfl ?_
      refine CL_159_23 hX hv (hR0) (hR3) (by omega) (fun A2 y3 hIy4 hFA2 gy3 => ?_) 10 A 0 hI (fun k _ => rfl) (by decide +kernel) (by decide +kernel)
      refine pz_iinc (j := 2) (n := 1) (by decide +kernel) rfl rfl (by decide +kernel) (by omega) (by omega) (fun z5 hz5 => ?_)
      show pmE pg X pg_tyl pg_cl (d + 2) 159 59 [.ref 68, .ref 33, .int z5, .int y3] [] (cd f A2 R wr) _
      refine pe_goto (off := (-49)) (t := 10) (by decide +kernel) (by decide) rfl ?_
      exact ih A2 z5 (.int y3) hIy4 (fun k n74 => ((hFA2 k n74)).trans ((hF k n74))) (by omega) (by omega)
set_option maxRecDepth 100000 in
set_option maxHeartbeats 8000000 in
theorem CM_159 {X : pm_X} {d : Nat} {wr : pm_W} {f : Nat → Int32} {A : Nat → List Int32} {R : Nat → Value} {v : Nat} (hX : XO X) (hI : CI f A R) (hv : VV v) (hR0 : R 0 = .ref v) : pmE pg X pg_tyl pg_cl (d + 2) 159 0 (pm_ent (pm_max pg 159) [.ref 68, .ref 33]) [] (cd f A R wr) (fun q => ∃ (f' : Nat → Int32) (A' : Nat → List Int32) (R' : Nat → Value), q = (none, cd f' A' R' wr, 0, 0) ∧ CI f' A' R' ∧ (∀ k : Nat, k ≠ 1095 → f' k = f k) ∧ (∀ k : Nat, k ≠ 74 → k ≠ 77 → A' k = A k) ∧ (∀ k : Nat, k ≠ 3 → R' k = R k) ∧ R' 3 = .ref v ∧ ((True))) := by
  have bv := VV_b hv
  show pmE pg X pg_tyl pg_cl (d + 2) 159 0 [.ref 68, .ref 33, pm_dead, pm_dead] [] (cd f A R wr) _
  refine pe_aload_n (j := 0) (by decide +kernel) rfl ?_
  refine pe_aload_n (j := 1) (by decide +kernel) rfl ?_
  refine pe_get (j := 42) (ci := 7) (n := 0) (by decide +kernel) (by decide +kernel) cd_o33 rfl ?_
  refine pe_topV (v := .ref v) (hR0) ?_
  refine pz_callV (j := 45) (mj := 160) (by decide +kernel) (cll_V (args := [.ref v]) (n := 1) (by decide +kernel) rfl rfl cd_o68 (by decide +kernel) (Nat.le_of_ble_eq_true rfl) (Nat.le_of_ble_eq_true rfl)) (CM_160 hX hI hv) (fun q1a q1b q1c q1d hqq1 => ?_)
  obtain ⟨f2, A3, R4, eq1, hIq1, hGq1, hFq1, hHq1, hS3q1, kq1⟩ := hqq1
  cases eq1
  refine ⟨rfl, rfl, ?_⟩
  show pmE pg X pg_tyl pg_cl (d + 2) 159 8 [.ref 68, .ref 33, pm_dead, pm_dead] [] (cd f2 A3 R4 wr) _
  refine pe_iconstv (n := 0) (v := 0) (by decide +kernel) (by decide +kernel) ?_
  refine pe_istore_n (j := 2) (ls' := [.ref 68, .ref 33, .int 0, pm_dead]) (by decide +kernel) (Nat.le_of_ble_eq_true rfl) rfl ?_
  refine CL_159_10 hX hv (((hHq1 0 (by decide))).trans (hR0)) (hS3q1) (fun A5 y6 u7 hIy8 hFA5 gy6 => ?_) 10 A3 0 (pm_dead) hIq1 (fun k _ => rfl) (by decide +kernel) (by decide +kernel)
  exact pe_vret (by decide +kernel) rfl ⟨f2, A5, R4, rfl, hIy8, (fun k n1095 => (hGq1 k n1095)), (fun k n74 n77 => ((hFA5 k n74)).trans ((hFq1 k n77))), (fun k n3 => (hHq1 k n3)), hS3q1, trivial⟩
set_option maxRecDepth 100000 in
set_option maxHeartbeats 8000000 in
theorem CL_180_2 {X : pm_X} {d : Nat} {wr : pm_W} {Q : pm_R → Prop} {f : Nat → Int32} {A0 : Nat → List Int32} {R : Nat → Value} {x1 : Int32} {v : Nat} (hX : XO X) (hv : VV v) (hR3 : R 3 = .ref v) (gx1 : (0 ≤ x1.toInt ∧ x1.toInt ≤ 8)) (k_41_0 : ∀ (A' : Nat → List Int32) (y2 : Int32), CI f A' R → (∀ k : Nat, k ≠ 74 → A' k = A0 k) → (0 ≤ y2.toInt ∧ y2.toInt ≤ 9) → pmE pg X pg_tyl pg_cl (d + 1) 180 41 [.ref 68, .int x1, .int y2] [] (cd f A' R wr) Q) : ∀ (m : Nat) (A : Nat → List Int32) (x2 : Int32), CI f A R → (∀ k : Nat, k ≠ 74 → A k = A0 k) → (0 ≤ x2.toInt ∧ x2.toInt ≤ 9) → 9 - x2.toInt < (m : Int) → pmE pg X pg_tyl pg_cl (d + 1) 180 2 [.ref 68, .int x1, .int x2] [] (cd f A R wr) Q := by
  have bv := VV_b hv
  intro m
  induction m with
  | zero =>
    intro A x2 hI hF gx2 hm
    exfalso
    have l0 := zi_lo x2
    have u0 := zi_hi x2
    omega
  | succ m ih =>
    intro A x2 hI hF gx2 hm
    refine pe_iload_n (j := 2) (by decide +kernel) rfl ?_
    refine pe_aload_n (j := 0) (by decide +kernel) rfl ?_
    refine pe_get (j := 12) (ci := 10) (n := 0) (by decide +kernel) (by decide +kernel) cd_o68 rfl ?_
    refine pe_topV (v := .ref v) (hR3) ?_
    refine pe_get (j := 49) (ci := 9) (n := 0) (by decide +kernel) (by decide +kernel) (cv_o hv) rfl ?_
    have hr_f_16v := cv_people hv hI
    refine pz_icmp_ge (off := 31) (t := 41) (by decide +kernel) (by decide) rfl rfl rfl (fun h1 => ?_) (fun h1 => ?_)
    · skip
      exact k_41_0 A x2 hI (fun k n74 => (hF k n74)) (by omega)
    · skip
      refine pe_aload_n (j := 0) (by decide +kernel) rfl ?_
      refine pe_get (j := 18) (ci := 10) (n := 1) (by decide +kernel) (by decide +kernel) cd_o68 rfl ?_
      refine pe_iload_n (j := 1) (by decide +kernel) rfl ?_
      refine pe_iload_n (j := 2) (by decide +kernel) rfl ?_
      refine pi_S (j := 53) (mj := 52) (by decide +kernel) (by decide +kernel) rfl ?_
      show pmE pg X pg_tyl pg_cl (d) 52 0 [.int x1, .int x2] [] (cd f A R wr) _
      refine pe_iload_n (j := 0) (by decide +kernel) rfl ?_
      refine pe_bipushv (n := 9) (v := 9) (by decide +kernel) (by decide +kernel) ?_
      refine pz_mul (by decide +kernel) rfl kz_9 (by omega) (by omega) (fun z2 hz2 => ?_)
      refine pe_iload_n (j := 1) (by decide +kernel) rfl ?_
      refine pz_add (by decide +kernel) hz2 rfl (by omega) (by omega) (fun z3 hz3 => ?_)
      clear hz2
      refine pe_iret (by decide +kernel) rfl rfl ⟨rfl, rfl, ?_⟩
      show pmE pg X pg_tyl pg_cl (d + 1) 180 22 [.ref 68, .int x1, .int x2] [.int z3, .ref 74] (cd f A R wr) _
      refine pe_iconstv (n := 0) (v := 0) (by decide +kernel) (by decide +kernel) ?_
      refine cz_st74 (by decide +kernel) hI hz3 (by omega) (by omega) (fun A4 eA4 hIA4 => ?_)
      refine pe_aload_n (j := 0) (by decide +kernel) rfl ?_
      refine pe_get (j := 18) (ci := 10) (n := 1) (by decide +kernel) (by decide +kernel) cd_o68 rfl ?_
      refine pe_iload_n (j := 2) (by decide +kernel) rfl ?_
      refine pe_iload_n (j := 1) (by decide +kernel) rfl ?_
      refine pi_S (j := 53) (mj := 52) (by decide +kernel) (by decide +kernel) rfl ?_
      show pmE pg X pg_tyl pg_cl (d) 52 0 [.int x2, .int x1] [] (cd f A4 R wr) _
      refine pe_iload_n (j := 0) (by decide +kernel) rfl ?_
      refine pe_bipushv (n := 9) (v := 9) (by decide +kernel) (by decide +kernel) ?_
      refine pz_mul (by decide +kernel) rfl kz_9 (by omega) (by omega) (fun z5 hz5 => ?_)
      refine pe_iload_n (j := 1) (by decide +kernel) rfl ?_
      refine pz_add (by decide +kernel) hz5 rfl (by omega) (by omega) (fun z6 hz6 => ?_)
      clear hz5
      refine pe_iret (by decide +kernel) rfl rfl ⟨rfl, rfl, ?_⟩
      show pmE pg X pg_tyl pg_cl (d + 1) 180 33 [.ref 68, .int x1, .int x2] [.int z6, .ref 74] (cd f A4 R wr) _
      refine pe_iconstv (n := 0) (v := 0) (by decide +kernel) (by decide +kernel) ?_
      refine cz_st74 (by decide +kernel) hIA4 hz6 (by omega) (by omega) (fun A7 eA7 hIA7 => ?_)
      refine pz_iinc (j := 2) (n := 1) (by decide +kernel) rfl rfl (by decide +kernel) (by omega) (by omega) (fun z8 hz8 => ?_)
      show pmE pg X pg_tyl pg_cl (d + 1) 180 38 [.ref 68, .int x1, .int z8] [] (cd f A7 R wr) _
      refine pe_goto (off := (-36)) (t := 2) (by decide +kernel) (by decide) rfl ?_
      exact ih A7 z8 hIA7 (fun k n74 => (upa_fr eA7 n74).trans ((upa_fr eA4 n74).trans ((hF k n74)))) (by omega) (by omega)
set_option maxRecDepth 100000 in
set_option maxHeartbeats 8000000 in
theorem CM_180 {X : pm_X} {d : Nat} {wr : pm_W} {f : Nat → Int32} {A : Nat → List Int32} {R : Nat → Value} {x1 : Int32} {v : Nat} (hX : XO X) (hI : CI f A R) (hv : VV v) (hR3 : R 3 = .ref v) (gx1 : (0 ≤ x1.toInt ∧ x1.toInt ≤ 8)) : pmE pg X pg_tyl pg_cl (d + 1) 180 0 (pm_ent (pm_max pg 180) [.ref 68, .int x1]) [] (cd f A R wr) (fun q => ∃ (A' : Nat → List Int32), q = (none, cd f A' R wr, 0, 0) ∧ CI f A' R ∧ (∀ k : Nat, k ≠ 74 → A' k = A k) ∧ ((True))) := by
  have bv := VV_b hv
  show pmE pg X pg_tyl pg_cl (d + 1) 180 0 [.ref 68, .int x1, pm_dead] [] (cd f A R wr) _
  refine pe_iconstv (n := 0) (v := 0) (by decide +kernel) (by decide +kernel) ?_
  refine pe_istore_n (j := 2) (ls' := [.ref 68, .int x1, .int 0]) (by decide +kernel) (Nat.le_of_ble_eq_true rfl) rfl ?_
  refine CL_180_2 hX hv (hR3) (by omega) (fun A1 y2 hIy3 hFA1 gy2 => ?_) 10 A 0 hI (fun k _ => rfl) (by decide +kernel) (by decide +kernel)
  exact pe_vret (by decide +kernel) rfl ⟨A1, rfl, hIy3, (fun k n74 => (hFA1 k n74)), trivial⟩
set_option maxRecDepth 100000 in
set_option maxHeartbeats 8000000 in
theorem CL_185_15 {X : pm_X} {d : Nat} {wr : pm_W} {Q : pm_R → Prop} {f : Nat → Int32} {A0 : Nat → List Int32} {R : Nat → Value} {x1 x2 : Int32} {v : Nat} (hX : XO X) (hv : VV v) (hR3 : R 3 = .ref v) (gx2 : (0 ≤ x2.toInt ∧ x2.toInt ≤ 8)) (k_52_0 : ∀ (A' : Nat → List Int32) (y3 : Int32), CI f A' R → (∀ k : Nat, k ≠ 74 → A' k = A0 k) → (0 ≤ y3.toInt ∧ y3.toInt ≤ 9) → pmE pg X pg_tyl pg_cl (d + 1) 185 52 [.ref 68, .int x1, .int x2, .int y3] [] (cd f A' R wr) Q) : ∀ (m : Nat) (A : Nat → List Int32) (x3 : Int32), CI f A R → (∀ k : Nat, k ≠ 74 → A k = A0 k) → (0 ≤ x3.toInt ∧ x3.toInt ≤ 9) → 9 - x3.toInt < (m : Int) → pmE pg X pg_tyl pg_cl (d + 1) 185 15 [.ref 68, .int x1, .int x2, .int x3] [] (cd f A R wr) Q := by
  have bv := VV_b hv
  intro m
  induction m with
  | zero =>
    intro A x3 hI hF gx3 hm
    exfalso
    have l0 := zi_lo x3
    have u0 := zi_hi x3
    omega
  | succ m ih =>
    intro A x3 hI hF gx3 hm
    refine pe_iload_n (j := 3) (by decide +kernel) rfl ?_
    refine pe_aload_n (j := 0) (by decide +kernel) rfl ?_
    refine pe_get (j := 12) (ci := 10) (n := 0) (by decide +kernel) (by decide +kernel) cd_o68 rfl ?_
    refine pe_topV (v := .ref v) (hR3) ?_
    refine pe_get (j := 49) (ci := 9) (n := 0) (by decide +kernel) (by decide +kernel) (cv_o hv) rfl ?_
    have hr_f_16v := cv_people hv hI
    refine pz_icmp_ge (off := 29) (t := 52) (by decide +kernel) (by decide) rfl rfl rfl (fun h1 => ?_) (fun h1 => ?_)
    · skip
      exact k_52_0 A x3 hI (fun k n74 => (hF k n74)) (by omega)
    · skip
      refine pe_aload_n (j := 0) (by decide +kernel) rfl ?_
      refine pe_get (j := 18) (ci := 10) (n := 1) (by decide +kernel) (by decide +kernel) cd_o68 rfl ?_
      refine pe_iload_n (j := 2) (by decide +kernel) rfl ?_
      refine pe_iload_n (j := 3) (by decide +kernel) rfl ?_
      refine pi_S (j := 53) (mj := 52) (by decide +kernel) (by decide +kernel) rfl ?_
      show pmE pg X pg_tyl pg_cl (d) 52 0 [.int x2, .int x3] [] (cd f A R wr) _
      refine pe_iload_n (j := 0) (by decide +kernel) rfl ?_
      refine pe_bipushv (n := 9) (v := 9) (by decide +kernel) (by decide +kernel) ?_
      refine pz_mul (by decide +kernel) rfl kz_9 (by omega) (by omega) (fun z2 hz2 => ?_)
      refine pe_iload_n (j := 1) (by decide +kernel) rfl ?_
      refine pz_add (by decide +kernel) hz2 rfl (by omega) (by omega) (fun z3 hz3 => ?_)
      clear hz2
      refine pe_iret (by decide +kernel) rfl rfl ⟨rfl, rfl, ?_⟩
      show pmE pg X pg_tyl pg_cl (d + 1) 185 35 [.ref 68, .int x1, .int x2, .int x3] [.int z3, .ref 74] (cd f A R wr) _
      refine pe_iload_n (j := 2) (by decide +kernel) rfl ?_
      refine pe_iload_n (j := 3) (by decide +kernel) rfl ?_
      refine pz_icmp_ne (off := 7) (t := 44) (by decide +kernel) (by decide) rfl rfl rfl (fun h4 => ?_) (fun h4 => ?_)
      · skip
        refine pe_iload_n (j := 1) (by decide +kernel) rfl ?_
        refine cz_st74 (by decide +kernel) hI hz3 (by omega) (by omega) (fun A5 eA5 hIA5 => ?_)
        refine pz_iinc (j := 3) (n := 1) (by decide +kernel) rfl rfl (by decide +kernel) (by omega) (by omega) (fun z6 hz6 => ?_)
        show pmE pg X pg_tyl pg_cl (d + 1) 185 49 [.ref 68, .int x1, .int x2, .int z6] [] (cd f A5 R wr) _
        refine pe_goto (off := (-34)) (t := 15) (by decide +kernel) (by decide) rfl ?_
        exact ih A5 z6 hIA5 (fun k n74 => (upa_fr eA5 n74).trans ((hF k n74))) (by omega) (by omega)
      · skip
        refine pe_iconstv (n := 0) (v := 0) (by decide +kernel) (by decide +kernel) ?_
        refine pe_goto (off := 4) (t := 45) (by decide +kernel) (by decide) rfl ?_
        refine cz_st74 (by decide +kernel) hI hz3 (by omega) (by omega) (fun A7 eA7 hIA7 => ?_)
        refine pz_iinc (j := 3) (n := 1) (by decide +kernel) rfl rfl (by decide +kernel) (by omega) (by omega) (fun z8 hz8 => ?_)
        show pmE pg X pg_tyl pg_cl (d + 1) 185 49 [.ref 68, .int x1, .int x2, .int z8] [] (cd f A7 R wr) _
        refine pe_goto (off := (-34)) (t := 15) (by decide +kernel) (by decide) rfl ?_
        exact ih A7 z8 hIA7 (fun k n74 => (upa_fr eA7 n74).trans ((hF k n74))) (by omega) (by omega)
set_option maxRecDepth 100000 in
set_option maxHeartbeats 8000000 in
theorem CL_185_2 {X : pm_X} {d : Nat} {wr : pm_W} {Q : pm_R → Prop} {f : Nat → Int32} {A0 : Nat → List Int32} {R : Nat → Value} {x1 : Int32} {v : Nat} (hX : XO X) (hv : VV v) (hR3 : R 3 = .ref v) (k_58_0 : ∀ (A' : Nat → List Int32) (y2 : Int32) (v3 : Value), CI f A' R → (∀ k : Nat, k ≠ 74 → A' k = A0 k) → (0 ≤ y2.toInt ∧ y2.toInt ≤ 9) → pmE pg X pg_tyl pg_cl (d + 1) 185 58 [.ref 68, .int x1, .int y2, v3] [] (cd f A' R wr) Q) : ∀ (m : Nat) (A : Nat → List Int32) (x2 : Int32) (u3 : Value), CI f A R → (∀ k : Nat, k ≠ 74 → A k = A0 k) → (0 ≤ x2.toInt ∧ x2.toInt ≤ 9) → 9 - x2.toInt < (m : Int) → pmE pg X pg_tyl pg_cl (d + 1) 185 2 [.ref 68, .int x1, .int x2, u3] [] (cd f A R wr) Q := by
  have bv := VV_b hv
  intro m
  induction m with
  | zero =>
    intro A x2 u3 hI hF gx2 hm
    exfalso
    have l0 := zi_lo x2
    have u0 := zi_hi x2
    omega
  | succ m ih =>
    intro A x2 u3 hI hF gx2 hm
    refine pe_iload_n (j := 2) (by decide +kernel) rfl ?_
    refine pe_aload_n (j := 0) (by decide +kernel) rfl ?_
    refine pe_get (j := 12) (ci := 10) (n := 0) (by decide +kernel) (by decide +kernel) cd_o68 rfl ?_
    refine pe_topV (v := .ref v) (hR3) ?_
    refine pe_get (j := 49) (ci := 9) (n := 0) (by decide +kernel) (by decide +kernel) (cv_o hv) rfl ?_
    have hr_f_16v := cv_people hv hI
    refine pz_icmp_ge (off := 48) (t := 58) (by decide +kernel) (by decide) rfl rfl rfl (fun h1 => ?_) (fun h1 => ?_)
    · skip
      exact k_58_0 A x2 (u3) hI (fun k n74 => (hF k n74)) (by omega)
    · skip
      refine pe_iconstv (n := 0) (v := 0) (by decide +kernel) (by decide +kernel) ?_
      refine pe_istore_n (j := 3) (ls' := [.ref 68, .int x1, .int x2, .int 0]) (by decide +kernel) (Nat.le_of_ble_eq_true rfl) rfl ?_
      refine CL_185_15 hX hv (hR3) (by omega) (fun A2 y3 hIy4 hFA2 gy3 => ?_) 10 A 0 hI (fun k _ => rfl) (by decide +kernel) (by decide +kernel)
      refine pz_iinc (j := 2) (n := 1) (by decide +kernel) rfl rfl (by decide +kernel) (by omega) (by omega) (fun z5 hz5 => ?_)
      show pmE pg X pg_tyl pg_cl (d + 1) 185 55 [.ref 68, .int x1, .int z5, .int y3] [] (cd f A2 R wr) _
      refine pe_goto (off := (-53)) (t := 2) (by decide +kernel) (by decide) rfl ?_
      exact ih A2 z5 (.int y3) hIy4 (fun k n74 => ((hFA2 k n74)).trans ((hF k n74))) (by omega) (by omega)
set_option maxRecDepth 100000 in
set_option maxHeartbeats 8000000 in
theorem CM_185 {X : pm_X} {d : Nat} {wr : pm_W} {f : Nat → Int32} {A : Nat → List Int32} {R : Nat → Value} {x1 : Int32} {v : Nat} (hX : XO X) (hI : CI f A R) (hv : VV v) (hR3 : R 3 = .ref v) : pmE pg X pg_tyl pg_cl (d + 1) 185 0 (pm_ent (pm_max pg 185) [.ref 68, .int x1]) [] (cd f A R wr) (fun q => ∃ (A' : Nat → List Int32), q = (none, cd f A' R wr, 0, 0) ∧ CI f A' R ∧ (∀ k : Nat, k ≠ 74 → A' k = A k) ∧ ((True))) := by
  have bv := VV_b hv
  show pmE pg X pg_tyl pg_cl (d + 1) 185 0 [.ref 68, .int x1, pm_dead, pm_dead] [] (cd f A R wr) _
  refine pe_iconstv (n := 0) (v := 0) (by decide +kernel) (by decide +kernel) ?_
  refine pe_istore_n (j := 2) (ls' := [.ref 68, .int x1, .int 0, pm_dead]) (by decide +kernel) (Nat.le_of_ble_eq_true rfl) rfl ?_
  refine CL_185_2 hX hv (hR3) (fun A1 y2 u3 hIy4 hFA1 gy2 => ?_) 10 A 0 (pm_dead) hI (fun k _ => rfl) (by decide +kernel) (by decide +kernel)
  exact pe_vret (by decide +kernel) rfl ⟨A1, rfl, hIy4, (fun k n74 => (hFA1 k n74)), trivial⟩
end
