section
set_option maxRecDepth 100000 in
set_option maxHeartbeats 8000000 in
theorem CM_120 {X : pm_X} {d : Nat} {wr : pm_W} {f : Nat → Int32} {A : Nat → List Int32} {R : Nat → Value} {x1 x2 x3 x4 x5 : Int32} (hX : XO X) (hI : CI f A R) : pmE pg X pg_tyl pg_cl (d + 6) 120 0 (pm_ent (pm_max pg 120) [.ref 0, .int x1, .int x2, .int x3, .int x4, .int x5]) [] (cd f A R wr) (fun q => ∃ (f' : Nat → Int32) (A' : Nat → List Int32) (R' : Nat → Value) (r : Int32), q = (some (.int r), cd f' A' R' wr, 0, 0) ∧ CI f' A' R' ∧ (∀ k : Nat, k ≠ 529 → k ≠ 530 → f' k = f k) ∧ (∀ k : Nat, k ≠ 39 → k ≠ 40 → k ≠ 41 → A' k = A k) ∧ (∀ k : Nat, k ≠ 0 → R' k = R k) ∧ ((True ∧ True))) := by
  show pmE pg X pg_tyl pg_cl (d + 6) 120 0 [.ref 0, .int x1, .int x2, .int x3, .int x4, .int x5, pm_dead] [] (cd f A R wr) _
  refine pe_aload_n (j := 0) (by decide +kernel) rfl ?_
  refine pe_iload_n (j := 1) (by decide +kernel) rfl ?_
  refine pe_iload_n (j := 2) (by decide +kernel) rfl ?_
  refine pe_iload_n (j := 3) (by decide +kernel) rfl ?_
  refine pz_callV (j := 201) (mj := 98) (by decide +kernel) (cll_V (args := [.int x3, .int x2, .int x1]) (n := 3) (by decide +kernel) rfl rfl cd_o0 (by decide +kernel) (Nat.le_of_ble_eq_true rfl) (Nat.le_of_ble_eq_true rfl)) (CM_98 hX hI) (fun q1a q1b q1c q1d hqq1 => ?_)
  obtain ⟨f2, A3, R4, rq1, eq1, hIq1, hGq1, hFq1, hHq1, kq1⟩ := hqq1
  cases eq1
  refine ⟨rfl, rfl, ?_⟩
  rcases kq1 with kq1 | kq1
  · skip
    obtain ⟨erq1, kq1⟩ := kq1
    subst erq1
    show pmE pg X pg_tyl pg_cl (d + 6) 120 7 [.ref 0, .int x1, .int x2, .int x3, .int x4, .int x5, pm_dead] [.int 0] (cd f2 A3 R4 wr) _
    refine pz_if_eq (off := 20) (t := 27) (by decide +kernel) (by decide) rfl kz_0 (fun h5 => ?_) (fun h5 => by omega)
    refine pe_iconstv (n := (-1)) (v := (-1)) (by decide +kernel) (by decide +kernel) ?_
    exact pe_iret (by decide +kernel) rfl rfl ⟨f2, A3, R4, (-1), rfl, hIq1, (fun k n529 n530 => (hGq1 k n529 n530)), (fun k n39 n40 n41 => (hFq1 k n39 n40 n41)), (fun k n0 => (hHq1 k n0)), ⟨trivial, trivial⟩⟩
  · skip
    obtain ⟨erq1, kq1⟩ := kq1
    subst erq1
    obtain ⟨⟨v4, hv4, hR0q1⟩, kq1⟩ := kq1
    have bv4 := VV_b hv4
    show pmE pg X pg_tyl pg_cl (d + 6) 120 7 [.ref 0, .int x1, .int x2, .int x3, .int x4, .int x5, pm_dead] [.int 1] (cd f2 A3 R4 wr) _
    refine pz_if_eq (off := 20) (t := 27) (by decide +kernel) (by decide) rfl kz_1 (fun h6 => by omega) (fun h6 => ?_)
    refine pe_iload (j := 4) (by decide +kernel) rfl ?_
    have lw8 := zi_lo x4
    have uw8 := zi_hi x4
    refine pz_if_lt (off := 15) (t := 27) (by decide +kernel) (by decide) rfl rfl (fun h7 => ?_) (fun h7 => ?_)
    · skip
      refine pe_iconstv (n := (-1)) (v := (-1)) (by decide +kernel) (by decide +kernel) ?_
      exact pe_iret (by decide +kernel) rfl rfl ⟨f2, A3, R4, (-1), rfl, hIq1, (fun k n529 n530 => (hGq1 k n529 n530)), (fun k n39 n40 n41 => (hFq1 k n39 n40 n41)), (fun k n0 => (hHq1 k n0)), ⟨trivial, trivial⟩⟩
    · skip
      refine pe_iload (j := 4) (by decide +kernel) rfl ?_
      refine pe_aload_n (j := 0) (by decide +kernel) rfl ?_
      refine pe_get (j := 34) (ci := 11) (n := 4) (by decide +kernel) (by decide +kernel) cd_o0 rfl ?_
      refine pe_get (j := 208) (ci := 7) (n := 2) (by decide +kernel) (by decide +kernel) cd_o33 rfl ?_
      have hr_f2_530 := cf_530 hIq1
      refine pz_icmp_lt (off := 5) (t := 29) (by decide +kernel) (by decide) rfl rfl rfl (fun h9 => ?_) (fun h9 => ?_)
      · skip
        refine pe_iload (j := 5) (by decide +kernel) rfl ?_
        have lw11 := zi_lo x5
        have uw11 := zi_hi x5
        refine pz_if_lt (off := 21) (t := 52) (by decide +kernel) (by decide) rfl rfl (fun h10 => ?_) (fun h10 => ?_)
        · skip
          refine pe_aload_n (j := 0) (by decide +kernel) rfl ?_
          refine pe_get (j := 34) (ci := 11) (n := 4) (by decide +kernel) (by decide +kernel) cd_o0 rfl ?_
          refine pe_iload (j := 4) (by decide +kernel) rfl ?_
          refine pe_iconstv (n := 0) (v := 0) (by decide +kernel) (by decide +kernel) ?_
          refine pi_V (j := 240) (mj := 84) (by decide +kernel) (cll_V (args := [.int 0, .int x4]) (n := 2) (by decide +kernel) rfl rfl cd_o33 (by decide +kernel) (Nat.le_of_ble_eq_true rfl) (Nat.le_of_ble_eq_true rfl)) ?_
          show pmE pg X pg_tyl pg_cl (d + 5) 84 0 [.ref 33, .int x4, .int 0] [] (cd f2 A3 R4 wr) _
          refine pe_aload_n (j := 0) (by decide +kernel) rfl ?_
          refine pe_get (j := 22) (ci := 7) (n := 4) (by decide +kernel) (by decide +kernel) cd_o33 rfl ?_
          refine pe_iload_n (j := 1) (by decide +kernel) rfl ?_
          refine pe_bipushv (n := 10) (v := 10) (by decide +kernel) (by decide +kernel) ?_
          refine pz_mul (by decide +kernel) rfl kz_10 (by omega) (by omega) (fun z12 hz12 => ?_)
          refine pe_iload_n (j := 2) (by decide +kernel) rfl ?_
          refine pz_add (by decide +kernel) hz12 kz_0 (by omega) (by omega) (fun z13 hz13 => ?_)
          clear hz12
          refine pz_iald (by decide +kernel) cd_a40 (cl_40 hIq1) hz13 (by omega) (by omega) (fun v14 ev14 => ?_)
          have rv14 : 0 ≤ v14.toInt ∧ v14.toInt ≤ 6 := ct1_m (ct_40 hIq1 ev14) (by omega)
          clear hz13
          refine pe_iret (by decide +kernel) rfl rfl ⟨rfl, rfl, ?_⟩
          show pmE pg X pg_tyl pg_cl (d + 6) 120 62 [.ref 0, .int x1, .int x2, .int x3, .int x4, .int x5, pm_dead] [.int v14] (cd f2 A3 R4 wr) _
          refine pe_istore (j := 6) (ls' := [.ref 0, .int x1, .int x2, .int x3, .int x4, .int x5, .int v14]) (by decide +kernel) (Nat.le_of_ble_eq_true rfl) rfl ?_
          refine pe_iload (j := 5) (by decide +kernel) rfl ?_
          refine pe_bipushv (n := 10) (v := 10) (by decide +kernel) (by decide +kernel) ?_
          refine pz_icmp_lt (off := 13) (t := 81) (by decide +kernel) (by decide) rfl rfl kz_10 (fun h15 => ?_) (fun h15 => by omega)
          refine pe_iconstv (n := (-1)) (v := (-1)) (by decide +kernel) (by decide +kernel) ?_
          exact pe_iret (by decide +kernel) rfl rfl ⟨f2, A3, R4, (-1), rfl, hIq1, (fun k n529 n530 => (hGq1 k n529 n530)), (fun k n39 n40 n41 => (hFq1 k n39 n40 n41)), (fun k n0 => (hHq1 k n0)), ⟨trivial, trivial⟩⟩
        · skip
          refine pe_iload (j := 5) (by decide +kernel) rfl ?_
          refine pe_iconstv (n := 3) (v := 3) (by decide +kernel) (by decide +kernel) ?_
          refine pz_icmp_gt (off := 15) (t := 52) (by decide +kernel) (by decide) rfl rfl kz_3 (fun h16 => ?_) (fun h16 => ?_)
          · skip
            refine pe_aload_n (j := 0) (by decide +kernel) rfl ?_
            refine pe_get (j := 34) (ci := 11) (n := 4) (by decide +kernel) (by decide +kernel) cd_o0 rfl ?_
            refine pe_iload (j := 4) (by decide +kernel) rfl ?_
            refine pe_iconstv (n := 0) (v := 0) (by decide +kernel) (by decide +kernel) ?_
            refine pi_V (j := 240) (mj := 84) (by decide +kernel) (cll_V (args := [.int 0, .int x4]) (n := 2) (by decide +kernel) rfl rfl cd_o33 (by decide +kernel) (Nat.le_of_ble_eq_true rfl) (Nat.le_of_ble_eq_true rfl)) ?_
            show pmE pg X pg_tyl pg_cl (d + 5) 84 0 [.ref 33, .int x4, .int 0] [] (cd f2 A3 R4 wr) _
            refine pe_aload_n (j := 0) (by decide +kernel) rfl ?_
            refine pe_get (j := 22) (ci := 7) (n := 4) (by decide +kernel) (by decide +kernel) cd_o33 rfl ?_
            refine pe_iload_n (j := 1) (by decide +kernel) rfl ?_
            refine pe_bipushv (n := 10) (v := 10) (by decide +kernel) (by decide +kernel) ?_
            refine pz_mul (by decide +kernel) rfl kz_10 (by omega) (by omega) (fun z17 hz17 => ?_)
            refine pe_iload_n (j := 2) (by decide +kernel) rfl ?_
            refine pz_add (by decide +kernel) hz17 kz_0 (by omega) (by omega) (fun z18 hz18 => ?_)
            clear hz17
            refine pz_iald (by decide +kernel) cd_a40 (cl_40 hIq1) hz18 (by omega) (by omega) (fun v19 ev19 => ?_)
            have rv19 : 0 ≤ v19.toInt ∧ v19.toInt ≤ 6 := ct1_m (ct_40 hIq1 ev19) (by omega)
            clear hz18
            refine pe_iret (by decide +kernel) rfl rfl ⟨rfl, rfl, ?_⟩
            show pmE pg X pg_tyl pg_cl (d + 6) 120 62 [.ref 0, .int x1, .int x2, .int x3, .int x4, .int x5, pm_dead] [.int v19] (cd f2 A3 R4 wr) _
            refine pe_istore (j := 6) (ls' := [.ref 0, .int x1, .int x2, .int x3, .int x4, .int x5, .int v19]) (by decide +kernel) (Nat.le_of_ble_eq_true rfl) rfl ?_
            refine pe_iload (j := 5) (by decide +kernel) rfl ?_
            refine pe_bipushv (n := 10) (v := 10) (by decide +kernel) (by decide +kernel) ?_
            refine pz_icmp_lt (off := 13) (t := 81) (by decide +kernel) (by decide) rfl rfl kz_10 (fun h20 => ?_) (fun h20 => ?_)
            · skip
              refine pe_iconstv (n := (-1)) (v := (-1)) (by decide +kernel) (by decide +kernel) ?_
              exact pe_iret (by decide +kernel) rfl rfl ⟨f2, A3, R4, (-1), rfl, hIq1, (fun k n529 n530 => (hGq1 k n529 n530)), (fun k n39 n40 n41 => (hFq1 k n39 n40 n41)), (fun k n0 => (hHq1 k n0)), ⟨trivial, trivial⟩⟩
            · skip
              refine pe_iload (j := 5) (by decide +kernel) rfl ?_
              refine pe_bipushv (n := 10) (v := 10) (by decide +kernel) (by decide +kernel) ?_
              refine pe_iload (j := 6) (by decide +kernel) rfl ?_
              refine pz_add (by decide +kernel) kz_10 rfl (by omega) (by omega) (fun z21 hz21 => ?_)
              refine pz_icmp_lt (off := 5) (t := 83) (by decide +kernel) (by decide) rfl rfl hz21 (fun h22 => ?_) (fun h22 => ?_)
              · skip
                clear hz21
                refine pe_aload_n (j := 0) (by decide +kernel) rfl ?_
                refine pe_get (j := 34) (ci := 11) (n := 4) (by decide +kernel) (by decide +kernel) cd_o0 rfl ?_
                refine pe_iload (j := 4) (by decide +kernel) rfl ?_
                refine pe_iconstv (n := 4) (v := 4) (by decide +kernel) (by decide +kernel) ?_
                refine pe_iload (j := 5) (by decide +kernel) rfl ?_
                refine pz_add (by decide +kernel) kz_4 rfl (by omega) (by omega) (fun z23 hz23 => ?_)
                refine pe_bipushv (n := 10) (v := 10) (by decide +kernel) (by decide +kernel) ?_
                refine pz_sub (by decide +kernel) hz23 kz_10 (by omega) (by omega) (fun z24 hz24 => ?_)
                clear hz23
                refine pi_V (j := 240) (mj := 84) (by decide +kernel) (cll_V (args := [.int z24, .int x4]) (n := 2) (by decide +kernel) rfl rfl cd_o33 (by decide +kernel) (Nat.le_of_ble_eq_true rfl) (Nat.le_of_ble_eq_true rfl)) ?_
                show pmE pg X pg_tyl pg_cl (d + 5) 84 0 [.ref 33, .int x4, .int z24] [] (cd f2 A3 R4 wr) _
                refine pe_aload_n (j := 0) (by decide +kernel) rfl ?_
                refine pe_get (j := 22) (ci := 7) (n := 4) (by decide +kernel) (by decide +kernel) cd_o33 rfl ?_
                refine pe_iload_n (j := 1) (by decide +kernel) rfl ?_
                refine pe_bipushv (n := 10) (v := 10) (by decide +kernel) (by decide +kernel) ?_
                refine pz_mul (by decide +kernel) rfl kz_10 (by omega) (by omega) (fun z25 hz25 => ?_)
                refine pe_iload_n (j := 2) (by decide +kernel) rfl ?_
                refine pz_add (by decide +kernel) hz25 hz24 (by omega) (by omega) (fun z26 hz26 => ?_)
                clear hz25
                refine pz_iald (by decide +kernel) cd_a40 (cl_40 hIq1) hz26 (by omega) (by omega) (fun v27 ev27 => ?_)
                have rv27 : 0 ≤ v27.toInt ∧ v27.toInt ≤ 8 := ct1_w (ct_40 hIq1 ev27) (by omega)
                clear hz26
                refine pe_iret (by decide +kernel) rfl rfl ⟨rfl, rfl, ?_⟩
                show pmE pg X pg_tyl pg_cl (d + 6) 120 99 [.ref 0, .int x1, .int x2, .int x3, .int x4, .int x5, .int v19] [.int v27] (cd f2 A3 R4 wr) _
                exact pe_iret (by decide +kernel) rfl rfl ⟨f2, A3, R4, v27, rfl, hIq1, (fun k n529 n530 => (hGq1 k n529 n530)), (fun k n39 n40 n41 => (hFq1 k n39 n40 n41)), (fun k n0 => (hHq1 k n0)), ⟨trivial, trivial⟩⟩
              · skip
                clear hz21
                refine pe_iconstv (n := (-1)) (v := (-1)) (by decide +kernel) (by decide +kernel) ?_
                exact pe_iret (by decide +kernel) rfl rfl ⟨f2, A3, R4, (-1), rfl, hIq1, (fun k n529 n530 => (hGq1 k n529 n530)), (fun k n39 n40 n41 => (hFq1 k n39 n40 n41)), (fun k n0 => (hHq1 k n0)), ⟨trivial, trivial⟩⟩
          · skip
            refine pe_aload_n (j := 0) (by decide +kernel) rfl ?_
            refine pe_get (j := 34) (ci := 11) (n := 4) (by decide +kernel) (by decide +kernel) cd_o0 rfl ?_
            refine pe_iload (j := 4) (by decide +kernel) rfl ?_
            refine pe_iload (j := 5) (by decide +kernel) rfl ?_
            refine pi_V (j := 240) (mj := 84) (by decide +kernel) (cll_V (args := [.int x5, .int x4]) (n := 2) (by decide +kernel) rfl rfl cd_o33 (by decide +kernel) (Nat.le_of_ble_eq_true rfl) (Nat.le_of_ble_eq_true rfl)) ?_
            show pmE pg X pg_tyl pg_cl (d + 5) 84 0 [.ref 33, .int x4, .int x5] [] (cd f2 A3 R4 wr) _
            refine pe_aload_n (j := 0) (by decide +kernel) rfl ?_
            refine pe_get (j := 22) (ci := 7) (n := 4) (by decide +kernel) (by decide +kernel) cd_o33 rfl ?_
            refine pe_iload_n (j := 1) (by decide +kernel) rfl ?_
            refine pe_bipushv (n := 10) (v := 10) (by decide +kernel) (by decide +kernel) ?_
            refine pz_mul (by decide +kernel) rfl kz_10 (by omega) (by omega) (fun z28 hz28 => ?_)
            refine pe_iload_n (j := 2) (by decide +kernel) rfl ?_
            refine pz_add (by decide +kernel) hz28 rfl (by omega) (by omega) (fun z29 hz29 => ?_)
            clear hz28
            refine pz_iald (by decide +kernel) cd_a40 (cl_40 hIq1) hz29 (by omega) (by omega) (fun v30 ev30 => ?_)
            clear hz29
            refine pe_iret (by decide +kernel) rfl rfl ⟨rfl, rfl, ?_⟩
            show pmE pg X pg_tyl pg_cl (d + 6) 120 51 [.ref 0, .int x1, .int x2, .int x3, .int x4, .int x5, pm_dead] [.int v30] (cd f2 A3 R4 wr) _
            exact pe_iret (by decide +kernel) rfl rfl ⟨f2, A3, R4, v30, rfl, hIq1, (fun k n529 n530 => (hGq1 k n529 n530)), (fun k n39 n40 n41 => (hFq1 k n39 n40 n41)), (fun k n0 => (hHq1 k n0)), ⟨trivial, trivial⟩⟩
      · skip
        refine pe_iconstv (n := (-1)) (v := (-1)) (by decide +kernel) (by decide +kernel) ?_
        exact pe_iret (by decide +kernel) rfl rfl ⟨f2, A3, R4, (-1), rfl, hIq1, (fun k n529 n530 => (hGq1 k n529 n530)), (fun k n39 n40 n41 => (hFq1 k n39 n40 n41)), (fun k n0 => (hHq1 k n0)), ⟨trivial, trivial⟩⟩
set_option maxRecDepth 100000 in
set_option maxHeartbeats 8000000 in
theorem CM_121 {X : pm_X} {d : Nat} {wr : pm_W} {f : Nat → Int32} {A : Nat → List Int32} {R : Nat → Value} {x1 x2 x3 x4 x5 : Int32} (hX : XO X) (hI : CI f A R) : pmE pg X pg_tyl pg_cl (d + 7) 121 0 (pm_ent (pm_max pg 121) [.ref 0, .int x1, .int x2, .int x3, .int x4, .int x5]) [] (cd f A R wr) (fun q => ∃ (f' : Nat → Int32) (A' : Nat → List Int32) (R' : Nat → Value) (r : Int32), q = (some (.int r), cd f' A' R' wr, 0, 0) ∧ CI f' A' R' ∧ (∀ k : Nat, k ≠ 529 → k ≠ 530 → f' k = f k) ∧ (∀ k : Nat, k ≠ 39 → k ≠ 40 → k ≠ 41 → A' k = A k) ∧ (∀ k : Nat, k ≠ 0 → R' k = R k) ∧ ((True ∧ True))) := by
  show pmE pg X pg_tyl pg_cl (d + 7) 121 0 [.ref 0, .int x1, .int x2, .int x3, .int x4, .int x5] [] (cd f A R wr) _
  refine pe_aload_n (j := 0) (by decide +kernel) rfl ?_
  refine pe_iload_n (j := 1) (by decide +kernel) rfl ?_
  refine pe_iload_n (j := 2) (by decide +kernel) rfl ?_
  refine pe_iload_n (j := 3) (by decide +kernel) rfl ?_
  refine pe_iload (j := 4) (by decide +kernel) rfl ?_
  refine pz_callV (j := 192) (mj := 101) (by decide +kernel) (cll_V (args := [.int x4, .int x3, .int x2, .int x1]) (n := 4) (by decide +kernel) rfl rfl cd_o0 (by decide +kernel) (Nat.le_of_ble_eq_true rfl) (Nat.le_of_ble_eq_true rfl)) (CM_101 hX hI) (fun q1a q1b q1c q1d hqq1 => ?_)
  obtain ⟨f2, A3, R4, rq1, eq1, hIq1, hGq1, hFq1, hHq1, kq1⟩ := hqq1
  cases eq1
  refine ⟨rfl, rfl, ?_⟩
  rcases kq1 with kq1 | kq1
  · skip
    obtain ⟨erq1, kq1⟩ := kq1
    subst erq1
    show pmE pg X pg_tyl pg_cl (d + 7) 121 9 [.ref 0, .int x1, .int x2, .int x3, .int x4, .int x5] [.int 0] (cd f2 A3 R4 wr) _
    refine pz_if_ne (off := 5) (t := 14) (by decide +kernel) (by decide) rfl kz_0 (fun h5 => by omega) (fun h5 => ?_)
    refine pe_iconstv (n := (-1)) (v := (-1)) (by decide +kernel) (by decide +kernel) ?_
    exact pe_iret (by decide +kernel) rfl rfl ⟨f2, A3, R4, (-1), rfl, hIq1, (fun k n529 n530 => (hGq1 k n529 n530)), (fun k n39 n40 n41 => (hFq1 k n39 n40 n41)), (fun k n0 => (hHq1 k n0)), ⟨trivial, trivial⟩⟩
  · skip
    obtain ⟨erq1, kq1⟩ := kq1
    subst erq1
    obtain ⟨⟨v6, hv6, hR0q1⟩, kq1⟩ := kq1
    have bv6 := VV_b hv6
    show pmE pg X pg_tyl pg_cl (d + 7) 121 9 [.ref 0, .int x1, .int x2, .int x3, .int x4, .int x5] [.int 1] (cd f2 A3 R4 wr) _
    refine pz_if_ne (off := 5) (t := 14) (by decide +kernel) (by decide) rfl kz_1 (fun h6 => ?_) (fun h6 => by omega)
    refine pe_iload (j := 5) (by decide +kernel) rfl ?_
    have lw8 := zi_lo x5
    have uw8 := zi_hi x5
    refine pz_if_eq (off := 15) (t := 31) (by decide +kernel) (by decide) rfl rfl (fun h7 => ?_) (fun h7 => ?_)
    · skip
      refine pe_aload_n (j := 0) (by decide +kernel) rfl ?_
      refine pe_get (j := 34) (ci := 11) (n := 4) (by decide +kernel) (by decide +kernel) cd_o0 rfl ?_
      refine pe_iload (j := 4) (by decide +kernel) rfl ?_
      refine pz_callV (j := 246) (mj := 123) (by decide +kernel) (cll_V (args := [.int x4]) (n := 1) (by decide +kernel) rfl rfl cd_o33 (by decide +kernel) (Nat.le_of_ble_eq_true rfl) (Nat.le_of_ble_eq_true rfl)) (CM_123 hX hIq1) (fun q9a q9b q9c q9d hqq9 => ?_)
      obtain ⟨rq9, eq9, kq9⟩ := hqq9
      cases eq9
      refine ⟨rfl, rfl, ?_⟩
      show pmE pg X pg_tyl pg_cl (d + 7) 121 40 [.ref 0, .int x1, .int x2, .int x3, .int x4, .int x5] [.int rq9] (cd f2 A3 R4 wr) _
      exact pe_iret (by decide +kernel) rfl rfl ⟨f2, A3, R4, rq9, rfl, hIq1, (fun k n529 n530 => (hGq1 k n529 n530)), (fun k n39 n40 n41 => (hFq1 k n39 n40 n41)), (fun k n0 => (hHq1 k n0)), ⟨trivial, trivial⟩⟩
    · skip
      refine pe_aload_n (j := 0) (by decide +kernel) rfl ?_
      refine pe_get (j := 34) (ci := 11) (n := 4) (by decide +kernel) (by decide +kernel) cd_o0 rfl ?_
      refine pe_iload (j := 4) (by decide +kernel) rfl ?_
      refine pz_callV (j := 243) (mj := 122) (by decide +kernel) (cll_V (args := [.int x4]) (n := 1) (by decide +kernel) rfl rfl cd_o33 (by decide +kernel) (Nat.le_of_ble_eq_true rfl) (Nat.le_of_ble_eq_true rfl)) (CM_122 hX hIq1) (fun q10a q10b q10c q10d hqq10 => ?_)
      obtain ⟨rq10, eq10, kq10⟩ := hqq10
      cases eq10
      refine ⟨rfl, rfl, ?_⟩
      show pmE pg X pg_tyl pg_cl (d + 7) 121 28 [.ref 0, .int x1, .int x2, .int x3, .int x4, .int x5] [.int rq10] (cd f2 A3 R4 wr) _
      refine pe_goto (off := 12) (t := 40) (by decide +kernel) (by decide) rfl ?_
      exact pe_iret (by decide +kernel) rfl rfl ⟨f2, A3, R4, rq10, rfl, hIq1, (fun k n529 n530 => (hGq1 k n529 n530)), (fun k n39 n40 n41 => (hFq1 k n39 n40 n41)), (fun k n0 => (hHq1 k n0)), ⟨trivial, trivial⟩⟩
set_option maxRecDepth 100000 in
set_option maxHeartbeats 8000000 in
theorem CM_124 {X : pm_X} {d : Nat} {wr : pm_W} {f : Nat → Int32} {A : Nat → List Int32} {R : Nat → Value} {x1 x2 x3 x4 : Int32} (hX : XO X) (hI : CI f A R) : pmE pg X pg_tyl pg_cl (d + 6) 124 0 (pm_ent (pm_max pg 124) [.ref 0, .int x1, .int x2, .int x3, .int x4]) [] (cd f A R wr) (fun q => ∃ (f' : Nat → Int32) (A' : Nat → List Int32) (R' : Nat → Value) (r : Int32), q = (some (.int r), cd f' A' R' wr, 0, 0) ∧ CI f' A' R' ∧ (∀ k : Nat, k ≠ 529 → k ≠ 530 → f' k = f k) ∧ (∀ k : Nat, k ≠ 39 → k ≠ 40 → k ≠ 41 → A' k = A k) ∧ (∀ k : Nat, k ≠ 0 → R' k = R k) ∧ ((True ∧ True))) := by
  show pmE pg X pg_tyl pg_cl (d + 6) 124 0 [.ref 0, .int x1, .int x2, .int x3, .int x4] [] (cd f A R wr) _
  refine pe_iload (j := 4) (by decide +kernel) rfl ?_
  have lw2 := zi_lo x4
  have uw2 := zi_hi x4
  refine pz_if_lt (off := 21) (t := 23) (by decide +kernel) (by decide) rfl rfl (fun h1 => ?_) (fun h1 => ?_)
  · skip
    refine pe_iconstv (n := (-1)) (v := (-1)) (by decide +kernel) (by decide +kernel) ?_
    exact pe_iret (by decide +kernel) rfl rfl ⟨f, A, R, (-1), rfl, hI, (fun k n529 n530 => rfl), (fun k n39 n40 n41 => rfl), (fun k n0 => rfl), ⟨trivial, trivial⟩⟩
  · skip
    refine pe_iload (j := 4) (by decide +kernel) rfl ?_
    refine pe_sipushv (n := 999) (v := 999) (by decide +kernel) (by decide +kernel) ?_
    refine pz_icmp_gt (off := 13) (t := 23) (by decide +kernel) (by decide) rfl rfl kz_999 (fun h3 => ?_) (fun h3 => ?_)
    · skip
      refine pe_iconstv (n := (-1)) (v := (-1)) (by decide +kernel) (by decide +kernel) ?_
      exact pe_iret (by decide +kernel) rfl rfl ⟨f, A, R, (-1), rfl, hI, (fun k n529 n530 => rfl), (fun k n39 n40 n41 => rfl), (fun k n0 => rfl), ⟨trivial, trivial⟩⟩
    · skip
      refine pe_aload_n (j := 0) (by decide +kernel) rfl ?_
      refine pe_iload_n (j := 1) (by decide +kernel) rfl ?_
      refine pe_iload_n (j := 2) (by decide +kernel) rfl ?_
      refine pe_iload_n (j := 3) (by decide +kernel) rfl ?_
      refine pz_callV (j := 201) (mj := 98) (by decide +kernel) (cll_V (args := [.int x3, .int x2, .int x1]) (n := 3) (by decide +kernel) rfl rfl cd_o0 (by decide +kernel) (Nat.le_of_ble_eq_true rfl) (Nat.le_of_ble_eq_true rfl)) (CM_98 hX hI) (fun q4a q4b q4c q4d hqq4 => ?_)
      obtain ⟨f5, A6, R7, rq4, eq4, hIq4, hGq4, hFq4, hHq4, kq4⟩ := hqq4
      cases eq4
      refine ⟨rfl, rfl, ?_⟩
      rcases kq4 with kq4 | kq4
      · skip
        obtain ⟨erq4, kq4⟩ := kq4
        subst erq4
        show pmE pg X pg_tyl pg_cl (d + 6) 124 20 [.ref 0, .int x1, .int x2, .int x3, .int x4] [.int 0] (cd f5 A6 R7 wr) _
        refine pz_if_ne (off := 5) (t := 25) (by decide +kernel) (by decide) rfl kz_0 (fun h8 => by omega) (fun h8 => ?_)
        refine pe_iconstv (n := (-1)) (v := (-1)) (by decide +kernel) (by decide +kernel) ?_
        exact pe_iret (by decide +kernel) rfl rfl ⟨f5, A6, R7, (-1), rfl, hIq4, (fun k n529 n530 => (hGq4 k n529 n530)), (fun k n39 n40 n41 => (hFq4 k n39 n40 n41)), (fun k n0 => (hHq4 k n0)), ⟨trivial, trivial⟩⟩
      · skip
        obtain ⟨erq4, kq4⟩ := kq4
        subst erq4
        obtain ⟨⟨v17, hv17, hR0q4⟩, kq4⟩ := kq4
        have bv17 := VV_b hv17
        show pmE pg X pg_tyl pg_cl (d + 6) 124 20 [.ref 0, .int x1, .int x2, .int x3, .int x4] [.int 1] (cd f5 A6 R7 wr) _
        refine pz_if_ne (off := 5) (t := 25) (by decide +kernel) (by decide) rfl kz_1 (fun h9 => ?_) (fun h9 => by omega)
        refine pe_aload_n (j := 0) (by decide +kernel) rfl ?_
        refine pe_get (j := 34) (ci := 11) (n := 4) (by decide +kernel) (by decide +kernel) cd_o0 rfl ?_
        refine pe_iload (j := 4) (by decide +kernel) rfl ?_
        refine pz_callV (j := 249) (mj := 125) (by decide +kernel) (cll_V (args := [.int x4]) (n := 1) (by decide +kernel) rfl rfl cd_o33 (by decide +kernel) (Nat.le_of_ble_eq_true rfl) (Nat.le_of_ble_eq_true rfl)) (CM_125 hX hIq4) (fun q10a q10b q10c q10d hqq10 => ?_)
        obtain ⟨rq10, eq10, kq10⟩ := hqq10
        cases eq10
        refine ⟨rfl, rfl, ?_⟩
        show pmE pg X pg_tyl pg_cl (d + 6) 124 34 [.ref 0, .int x1, .int x2, .int x3, .int x4] [.int rq10] (cd f5 A6 R7 wr) _
        exact pe_iret (by decide +kernel) rfl rfl ⟨f5, A6, R7, rq10, rfl, hIq4, (fun k n529 n530 => (hGq4 k n529 n530)), (fun k n39 n40 n41 => (hFq4 k n39 n40 n41)), (fun k n0 => (hHq4 k n0)), ⟨trivial, trivial⟩⟩
set_option maxRecDepth 100000 in
set_option maxHeartbeats 8000000 in
theorem CM_126 {X : pm_X} {d : Nat} {wr : pm_W} {f : Nat → Int32} {A : Nat → List Int32} {R : Nat → Value} {x1 x2 x3 x4 x5 x6 : Int32} (hX : XO X) (hI : CI f A R) : pmE pg X pg_tyl pg_cl (d + 6) 126 0 (pm_ent (pm_max pg 126) [.ref 0, .int x1, .int x2, .int x3, .int x4, .int x5, .int x6]) [] (cd f A R wr) (fun q => ∃ (f' : Nat → Int32) (A' : Nat → List Int32) (R' : Nat → Value) (r : Int32), q = (some (.int r), cd f' A' R' wr, 0, 0) ∧ CI f' A' R' ∧ (∀ k : Nat, k ≠ 529 → k ≠ 530 → k ≠ 1360 → k ≠ 1361 → k ≠ 1362 → f' k = f k) ∧ (∀ k : Nat, k ≠ 39 → k ≠ 40 → k ≠ 41 → A' k = A k) ∧ (∀ k : Nat, k ≠ 0 → R' k = R k) ∧ ((True ∧ True))) := by
  show pmE pg X pg_tyl pg_cl (d + 6) 126 0 [.ref 0, .int x1, .int x2, .int x3, .int x4, .int x5, .int x6] [] (cd f A R wr) _
  refine pe_iload (j := 5) (by decide +kernel) rfl ?_
  have lw2 := zi_lo x5
  have uw2 := zi_hi x5
  refine pz_if_lt (off := 21) (t := 23) (by decide +kernel) (by decide) rfl rfl (fun h1 => ?_) (fun h1 => ?_)
  · skip
    refine pe_bipushv (n := (-2)) (v := (-2)) (by decide +kernel) (by decide +kernel) ?_
    exact pe_iret (by decide +kernel) rfl rfl ⟨f, A, R, (-2), rfl, hI, (fun k n529 n530 n1360 n1361 n1362 => rfl), (fun k n39 n40 n41 => rfl), (fun k n0 => rfl), ⟨trivial, trivial⟩⟩
  · skip
    refine pe_iload (j := 5) (by decide +kernel) rfl ?_
    refine pe_bipushv (n := 24) (v := 24) (by decide +kernel) (by decide +kernel) ?_
    refine pz_icmp_gt (off := 14) (t := 23) (by decide +kernel) (by decide) rfl rfl kz_24 (fun h3 => ?_) (fun h3 => ?_)
    · skip
      refine pe_bipushv (n := (-2)) (v := (-2)) (by decide +kernel) (by decide +kernel) ?_
      exact pe_iret (by decide +kernel) rfl rfl ⟨f, A, R, (-2), rfl, hI, (fun k n529 n530 n1360 n1361 n1362 => rfl), (fun k n39 n40 n41 => rfl), (fun k n0 => rfl), ⟨trivial, trivial⟩⟩
    · skip
      refine pe_iload (j := 6) (by decide +kernel) rfl ?_
      have lw5 := zi_lo x6
      have uw5 := zi_hi x6
      refine pz_if_lt (off := 9) (t := 23) (by decide +kernel) (by decide) rfl rfl (fun h4 => ?_) (fun h4 => ?_)
      · skip
        refine pe_bipushv (n := (-2)) (v := (-2)) (by decide +kernel) (by decide +kernel) ?_
        exact pe_iret (by decide +kernel) rfl rfl ⟨f, A, R, (-2), rfl, hI, (fun k n529 n530 n1360 n1361 n1362 => rfl), (fun k n39 n40 n41 => rfl), (fun k n0 => rfl), ⟨trivial, trivial⟩⟩
      · skip
        refine pe_iload (j := 6) (by decide +kernel) rfl ?_
        refine pe_iconstv (n := 3) (v := 3) (by decide +kernel) (by decide +kernel) ?_
        refine pz_icmp_le (off := 6) (t := 26) (by decide +kernel) (by decide) rfl rfl kz_3 (fun h6 => ?_) (fun h6 => ?_)
        · skip
          refine pe_aload_n (j := 0) (by decide +kernel) rfl ?_
          refine pe_iload_n (j := 1) (by decide +kernel) rfl ?_
          refine pe_iload_n (j := 2) (by decide +kernel) rfl ?_
          refine pe_iload_n (j := 3) (by decide +kernel) rfl ?_
          refine pz_callV (j := 201) (mj := 98) (by decide +kernel) (cll_V (args := [.int x3, .int x2, .int x1]) (n := 3) (by decide +kernel) rfl rfl cd_o0 (by decide +kernel) (Nat.le_of_ble_eq_true rfl) (Nat.le_of_ble_eq_true rfl)) (CM_98 hX hI) (fun q7a q7b q7c q7d hqq7 => ?_)
          obtain ⟨f8, A9, R10, rq7, eq7, hIq7, hGq7, hFq7, hHq7, kq7⟩ := hqq7
          cases eq7
          refine ⟨rfl, rfl, ?_⟩
          rcases kq7 with kq7 | kq7
          · skip
            obtain ⟨erq7, kq7⟩ := kq7
            subst erq7
            show pmE pg X pg_tyl pg_cl (d + 6) 126 33 [.ref 0, .int x1, .int x2, .int x3, .int x4, .int x5, .int x6] [.int 0] (cd f8 A9 R10 wr) _
            refine pz_if_ne (off := 6) (t := 39) (by decide +kernel) (by decide) rfl kz_0 (fun h11 => by omega) (fun h11 => ?_)
            refine pe_bipushv (n := (-2)) (v := (-2)) (by decide +kernel) (by decide +kernel) ?_
            exact pe_iret (by decide +kernel) rfl rfl ⟨f8, A9, R10, (-2), rfl, hIq7, (fun k n529 n530 n1360 n1361 n1362 => (hGq7 k n529 n530)), (fun k n39 n40 n41 => (hFq7 k n39 n40 n41)), (fun k n0 => (hHq7 k n0)), ⟨trivial, trivial⟩⟩
          · skip
            obtain ⟨erq7, kq7⟩ := kq7
            subst erq7
            obtain ⟨⟨v30, hv30, hR0q7⟩, kq7⟩ := kq7
            have bv30 := VV_b hv30
            show pmE pg X pg_tyl pg_cl (d + 6) 126 33 [.ref 0, .int x1, .int x2, .int x3, .int x4, .int x5, .int x6] [.int 1] (cd f8 A9 R10 wr) _
            refine pz_if_ne (off := 6) (t := 39) (by decide +kernel) (by decide) rfl kz_1 (fun h12 => ?_) (fun h12 => by omega)
            refine pe_aload_n (j := 0) (by decide +kernel) rfl ?_
            refine pe_get (j := 69) (ci := 11) (n := 9) (by decide +kernel) (by decide +kernel) cd_o0 rfl ?_
            refine pe_aload_n (j := 0) (by decide +kernel) rfl ?_
            refine pe_get (j := 34) (ci := 11) (n := 4) (by decide +kernel) (by decide +kernel) cd_o0 rfl ?_
            refine pe_iload (j := 4) (by decide +kernel) rfl ?_
            refine pe_iload (j := 5) (by decide +kernel) rfl ?_
            refine pz_callV (j := 252) (mj := 127) (by decide +kernel) (cll_V (args := [.int x5, .int x4, .ref 33]) (n := 3) (by decide +kernel) rfl rfl cd_o85 (by decide +kernel) (Nat.le_of_ble_eq_true rfl) (Nat.le_of_ble_eq_true rfl)) (CM_127 hX hIq7 hv30 (hR0q7) (by omega)) (fun q13a q13b q13c q13d hqq13 => ?_)
            obtain ⟨f14, A15, eq13, hIq13, hGq13, hFq13, kq13⟩ := hqq13
            cases eq13
            refine ⟨rfl, rfl, ?_⟩
            show pmE pg X pg_tyl pg_cl (d + 6) 126 54 [.ref 0, .int x1, .int x2, .int x3, .int x4, .int x5, .int x6] [] (cd f14 A15 R10 wr) _
            refine pe_iload (j := 6) (by decide +kernel) rfl ?_
            by_cases h16 : x6.toInt = 0
            · skip
              refine pe_tableIn (df := 52) (lo := 0) (hi := 2) (off := 28) (offs := #[28, 36, 44]) (t := 84) (by decide +kernel) (by omega) (by rw [h16]; rfl) (by decide) rfl ?_
              refine pe_aload_n (j := 0) (by decide +kernel) rfl ?_
              refine pe_get (j := 34) (ci := 11) (n := 4) (by decide +kernel) (by decide +kernel) cd_o0 rfl ?_
              refine pz_callV (j := 211) (mj := 104) (by decide +kernel) (cll_V (args := []) (n := 0) (by decide +kernel) rfl rfl cd_o33 (by decide +kernel) (Nat.le_of_ble_eq_true rfl) (Nat.le_of_ble_eq_true rfl)) (CM_104 hX hIq13) (fun q17a q17b q17c q17d hqq17 => ?_)
              obtain ⟨rq17, eq17, kq17⟩ := hqq17
              cases eq17
              refine ⟨rfl, rfl, ?_⟩
              show pmE pg X pg_tyl pg_cl (d + 6) 126 91 [.ref 0, .int x1, .int x2, .int x3, .int x4, .int x5, .int x6] [.int rq17] (cd f14 A15 R10 wr) _
              exact pe_iret (by decide +kernel) rfl rfl ⟨f14, A15, R10, rq17, rfl, hIq13, (fun k n529 n530 n1360 n1361 n1362 => ((hGq13 k n529 n1360 n1361 n1362)).trans ((hGq7 k n529 n530))), (fun k n39 n40 n41 => ((hFq13 k n39 n40)).trans ((hFq7 k n39 n40 n41))), (fun k n0 => (hHq7 k n0)), ⟨trivial, trivial⟩⟩
            · skip
              by_cases h18 : x6.toInt = 1
              · skip
                refine pe_tableIn (df := 52) (lo := 0) (hi := 2) (off := 36) (offs := #[28, 36, 44]) (t := 92) (by decide +kernel) (by omega) (by rw [h18]; rfl) (by decide) rfl ?_
                refine pe_aload_n (j := 0) (by decide +kernel) rfl ?_
                refine pe_get (j := 34) (ci := 11) (n := 4) (by decide +kernel) (by decide +kernel) cd_o0 rfl ?_
                refine pz_callV (j := 215) (mj := 105) (by decide +kernel) (cll_V (args := []) (n := 0) (by decide +kernel) rfl rfl cd_o33 (by decide +kernel) (Nat.le_of_ble_eq_true rfl) (Nat.le_of_ble_eq_true rfl)) (CM_105 hX hIq13) (fun q19a q19b q19c q19d hqq19 => ?_)
                obtain ⟨rq19, eq19, kq19⟩ := hqq19
                cases eq19
                refine ⟨rfl, rfl, ?_⟩
                show pmE pg X pg_tyl pg_cl (d + 6) 126 99 [.ref 0, .int x1, .int x2, .int x3, .int x4, .int x5, .int x6] [.int rq19] (cd f14 A15 R10 wr) _
                exact pe_iret (by decide +kernel) rfl rfl ⟨f14, A15, R10, rq19, rfl, hIq13, (fun k n529 n530 n1360 n1361 n1362 => ((hGq13 k n529 n1360 n1361 n1362)).trans ((hGq7 k n529 n530))), (fun k n39 n40 n41 => ((hFq13 k n39 n40)).trans ((hFq7 k n39 n40 n41))), (fun k n0 => (hHq7 k n0)), ⟨trivial, trivial⟩⟩
              · skip
                by_cases h20 : x6.toInt = 2
                · skip
                  refine pe_tableIn (df := 52) (lo := 0) (hi := 2) (off := 44) (offs := #[28, 36, 44]) (t := 100) (by decide +kernel) (by omega) (by rw [h20]; rfl) (by decide) rfl ?_
                  refine pe_aload_n (j := 0) (by decide +kernel) rfl ?_
                  refine pe_get (j := 69) (ci := 11) (n := 9) (by decide +kernel) (by decide +kernel) cd_o0 rfl ?_
                  refine pe_get (j := 256) (ci := 2) (n := 1) (by decide +kernel) (by decide +kernel) cd_o85 rfl ?_
                  exact pe_iret (by decide +kernel) rfl rfl ⟨f14, A15, R10, (f14 1361), rfl, hIq13, (fun k n529 n530 n1360 n1361 n1362 => ((hGq13 k n529 n1360 n1361 n1362)).trans ((hGq7 k n529 n530))), (fun k n39 n40 n41 => ((hFq13 k n39 n40)).trans ((hFq7 k n39 n40 n41))), (fun k n0 => (hHq7 k n0)), ⟨trivial, trivial⟩⟩
                · skip
                  refine pe_tableOut (df := 52) (lo := 0) (hi := 2) (offs := #[28, 36, 44]) (t := 108) (by decide +kernel) (by omega) (by decide) rfl ?_
                  refine pe_aload_n (j := 0) (by decide +kernel) rfl ?_
                  refine pe_get (j := 69) (ci := 11) (n := 9) (by decide +kernel) (by decide +kernel) cd_o0 rfl ?_
                  refine pe_get (j := 259) (ci := 2) (n := 2) (by decide +kernel) (by decide +kernel) cd_o85 rfl ?_
                  exact pe_iret (by decide +kernel) rfl rfl ⟨f14, A15, R10, (f14 1362), rfl, hIq13, (fun k n529 n530 n1360 n1361 n1362 => ((hGq13 k n529 n1360 n1361 n1362)).trans ((hGq7 k n529 n530))), (fun k n39 n40 n41 => ((hFq13 k n39 n40)).trans ((hFq7 k n39 n40 n41))), (fun k n0 => (hHq7 k n0)), ⟨trivial, trivial⟩⟩
        · skip
          refine pe_bipushv (n := (-2)) (v := (-2)) (by decide +kernel) (by decide +kernel) ?_
          exact pe_iret (by decide +kernel) rfl rfl ⟨f, A, R, (-2), rfl, hI, (fun k n529 n530 n1360 n1361 n1362 => rfl), (fun k n39 n40 n41 => rfl), (fun k n0 => rfl), ⟨trivial, trivial⟩⟩
set_option maxRecDepth 100000 in
set_option maxHeartbeats 8000000 in
theorem CM_130 {X : pm_X} {d : Nat} {wr : pm_W} {f : Nat → Int32} {A : Nat → List Int32} {R : Nat → Value} {x1 x2 x3 x4 x5 x6 : Int32} (hX : XO X) (hI : CI f A R) : pmE pg X pg_tyl pg_cl (d + 11) 130 0 (pm_ent (pm_max pg 130) [.ref 0, .int x1, .int x2, .int x3, .int x4, .int x5, .int x6]) [] (cd f A R wr) (fun q => ∃ (f' : Nat → Int32) (A' : Nat → List Int32) (R' : Nat → Value) (r : Int32), q = (some (.int r), cd f' A' R' wr, 0, 0) ∧ CI f' A' R' ∧ (∀ k : Nat, k ≠ 529 → k ≠ 530 → k ≠ 881 → k ≠ 882 → k ≠ 886 → k ≠ 887 → f' k = f k) ∧ (∀ k : Nat, k ≠ 39 → k ≠ 40 → k ≠ 41 → k ≠ 65 → k ≠ 66 → k ≠ 67 → A' k = A k) ∧ (∀ k : Nat, k ≠ 0 → k ≠ 2 → k ≠ 5 → R' k = R k) ∧ ((True ∧ True))) := by
  show pmE pg X pg_tyl pg_cl (d + 11) 130 0 [.ref 0, .int x1, .int x2, .int x3, .int x4, .int x5, .int x6] [] (cd f A R wr) _
  refine pe_aload_n (j := 0) (by decide +kernel) rfl ?_
  refine pe_iload_n (j := 1) (by decide +kernel) rfl ?_
  refine pe_iload_n (j := 2) (by decide +kernel) rfl ?_
  refine pe_iload_n (j := 3) (by decide +kernel) rfl ?_
  refine pe_iload (j := 4) (by decide +kernel) rfl ?_
  refine pe_iload (j := 5) (by decide +kernel) rfl ?_
  refine pz_callV (j := 262) (mj := 131) (by decide +kernel) (cll_V (args := [.int x5, .int x4, .int x3, .int x2, .int x1]) (n := 5) (by decide +kernel) rfl rfl cd_o0 (by decide +kernel) (Nat.le_of_ble_eq_true rfl) (Nat.le_of_ble_eq_true rfl)) (CM_131 hX hI) (fun q1a q1b q1c q1d hqq1 => ?_)
  obtain ⟨f2, A3, R4, rq1, eq1, hIq1, hGq1, hFq1, hHq1, kq1⟩ := hqq1
  cases eq1
  refine ⟨rfl, rfl, ?_⟩
  rcases kq1 with kq1 | kq1
  · skip
    obtain ⟨erq1, kq1⟩ := kq1
    subst erq1
    show pmE pg X pg_tyl pg_cl (d + 11) 130 11 [.ref 0, .int x1, .int x2, .int x3, .int x4, .int x5, .int x6] [.int 0] (cd f2 A3 R4 wr) _
    refine pz_if_ne (off := 5) (t := 16) (by decide +kernel) (by decide) rfl kz_0 (fun h5 => by omega) (fun h5 => ?_)
    refine pe_iconstv (n := (-1)) (v := (-1)) (by decide +kernel) (by decide +kernel) ?_
    exact pe_iret (by decide +kernel) rfl rfl ⟨f2, A3, R4, (-1), rfl, hIq1, (fun k n529 n530 n881 n882 n886 n887 => (hGq1 k n529 n530 n881 n882 n886 n887)), (fun k n39 n40 n41 n65 n66 n67 => (hFq1 k n39 n40 n41 n65 n66 n67)), (fun k n0 n2 n5 => (hHq1 k n0 n2 n5)), ⟨trivial, trivial⟩⟩
  · skip
    obtain ⟨erq1, kq1⟩ := kq1
    subst erq1
    obtain ⟨⟨v8, hv8, hR0q1⟩, kq1⟩ := kq1
    have bv8 := VV_b hv8
    show pmE pg X pg_tyl pg_cl (d + 11) 130 11 [.ref 0, .int x1, .int x2, .int x3, .int x4, .int x5, .int x6] [.int 1] (cd f2 A3 R4 wr) _
    refine pz_if_ne (off := 5) (t := 16) (by decide +kernel) (by decide) rfl kz_1 (fun h6 => ?_) (fun h6 => by omega)
    refine pe_iload (j := 6) (by decide +kernel) rfl ?_
    have lw8 := zi_lo x6
    have uw8 := zi_hi x6
    refine pz_if_ne (off := 11) (t := 29) (by decide +kernel) (by decide) rfl rfl (fun h7 => ?_) (fun h7 => ?_)
    · skip
      refine pe_iload (j := 6) (by decide +kernel) rfl ?_
      refine pe_iconstv (n := 1) (v := 1) (by decide +kernel) (by decide +kernel) ?_
      refine pz_icmp_ne (off := 11) (t := 43) (by decide +kernel) (by decide) rfl rfl kz_1 (fun h9 => ?_) (fun h9 => ?_)
      · skip
        refine pe_iload (j := 6) (by decide +kernel) rfl ?_
        refine pe_bipushv (n := 10) (v := 10) (by decide +kernel) (by decide +kernel) ?_
        refine pz_icmp_lt (off := 18) (t := 65) (by decide +kernel) (by decide) rfl rfl kz_10 (fun h10 => ?_) (fun h10 => ?_)
        · skip
          refine pe_iconstv (n := (-1)) (v := (-1)) (by decide +kernel) (by decide +kernel) ?_
          exact pe_iret (by decide +kernel) rfl rfl ⟨f2, A3, R4, (-1), rfl, hIq1, (fun k n529 n530 n881 n882 n886 n887 => (hGq1 k n529 n530 n881 n882 n886 n887)), (fun k n39 n40 n41 n65 n66 n67 => (hFq1 k n39 n40 n41 n65 n66 n67)), (fun k n0 n2 n5 => (hHq1 k n0 n2 n5)), ⟨trivial, trivial⟩⟩
        · skip
          refine pe_iload (j := 6) (by decide +kernel) rfl ?_
          refine pe_bipushv (n := 10) (v := 10) (by decide +kernel) (by decide +kernel) ?_
          refine pe_aload_n (j := 0) (by decide +kernel) rfl ?_
          refine pe_get (j := 48) (ci := 11) (n := 6) (by decide +kernel) (by decide +kernel) cd_o0 rfl ?_
          refine pe_get (j := 265) (ci := 6) (n := 6) (by decide +kernel) (by decide +kernel) cd_o55 rfl ?_
          have hr_f2_886 := cf_886 hIq1
          refine pz_add (by decide +kernel) kz_10 rfl (by omega) (by omega) (fun z11 hz11 => ?_)
          refine pz_icmp_lt (off := 5) (t := 67) (by decide +kernel) (by decide) rfl rfl hz11 (fun h12 => ?_) (fun h12 => ?_)
          · skip
            clear hz11
            refine pe_aload_n (j := 0) (by decide +kernel) rfl ?_
            refine pe_get (j := 48) (ci := 11) (n := 6) (by decide +kernel) (by decide +kernel) cd_o0 rfl ?_
            refine pe_get (j := 271) (ci := 6) (n := 5) (by decide +kernel) (by decide +kernel) cd_o55 rfl ?_
            refine pe_iload (j := 6) (by decide +kernel) rfl ?_
            refine pe_bipushv (n := 10) (v := 10) (by decide +kernel) (by decide +kernel) ?_
            refine pz_sub (by decide +kernel) rfl kz_10 (by omega) (by omega) (fun z13 hz13 => ?_)
            refine pz_iald (by decide +kernel) cd_a67 (cl_67 hIq1) hz13 (by omega) (by omega) (fun v14 ev14 => ?_)
            have rv14 : 0 ≤ v14.toInt ∧ v14.toInt ≤ 8 := ct_67 hIq1 ev14
            clear hz13
            exact pe_iret (by decide +kernel) rfl rfl ⟨f2, A3, R4, v14, rfl, hIq1, (fun k n529 n530 n881 n882 n886 n887 => (hGq1 k n529 n530 n881 n882 n886 n887)), (fun k n39 n40 n41 n65 n66 n67 => (hFq1 k n39 n40 n41 n65 n66 n67)), (fun k n0 n2 n5 => (hHq1 k n0 n2 n5)), ⟨trivial, trivial⟩⟩
          · skip
            clear hz11
            refine pe_iconstv (n := (-1)) (v := (-1)) (by decide +kernel) (by decide +kernel) ?_
            exact pe_iret (by decide +kernel) rfl rfl ⟨f2, A3, R4, (-1), rfl, hIq1, (fun k n529 n530 n881 n882 n886 n887 => (hGq1 k n529 n530 n881 n882 n886 n887)), (fun k n39 n40 n41 n65 n66 n67 => (hFq1 k n39 n40 n41 n65 n66 n67)), (fun k n0 n2 n5 => (hHq1 k n0 n2 n5)), ⟨trivial, trivial⟩⟩
      · skip
        refine pe_aload_n (j := 0) (by decide +kernel) rfl ?_
        refine pe_get (j := 48) (ci := 11) (n := 6) (by decide +kernel) (by decide +kernel) cd_o0 rfl ?_
        refine pe_get (j := 268) (ci := 6) (n := 7) (by decide +kernel) (by decide +kernel) cd_o55 rfl ?_
        exact pe_iret (by decide +kernel) rfl rfl ⟨f2, A3, R4, (f2 887), rfl, hIq1, (fun k n529 n530 n881 n882 n886 n887 => (hGq1 k n529 n530 n881 n882 n886 n887)), (fun k n39 n40 n41 n65 n66 n67 => (hFq1 k n39 n40 n41 n65 n66 n67)), (fun k n0 n2 n5 => (hHq1 k n0 n2 n5)), ⟨trivial, trivial⟩⟩
    · skip
      refine pe_aload_n (j := 0) (by decide +kernel) rfl ?_
      refine pe_get (j := 48) (ci := 11) (n := 6) (by decide +kernel) (by decide +kernel) cd_o0 rfl ?_
      refine pe_get (j := 265) (ci := 6) (n := 6) (by decide +kernel) (by decide +kernel) cd_o55 rfl ?_
      have hr_f2_886 := cf_886 hIq1
      exact pe_iret (by decide +kernel) rfl rfl ⟨f2, A3, R4, (f2 886), rfl, hIq1, (fun k n529 n530 n881 n882 n886 n887 => (hGq1 k n529 n530 n881 n882 n886 n887)), (fun k n39 n40 n41 n65 n66 n67 => (hFq1 k n39 n40 n41 n65 n66 n67)), (fun k n0 n2 n5 => (hHq1 k n0 n2 n5)), ⟨trivial, trivial⟩⟩
set_option maxRecDepth 100000 in
set_option maxHeartbeats 8000000 in
theorem CM_139 {X : pm_X} {d : Nat} {wr : pm_W} {f : Nat → Int32} {A : Nat → List Int32} {R : Nat → Value} {x1 x2 x3 x4 x5 x6 : Int32} (hX : XO X) (hI : CI f A R) : pmE pg X pg_tyl pg_cl (d + 11) 139 0 (pm_ent (pm_max pg 139) [.ref 0, .int x1, .int x2, .int x3, .int x4, .int x5, .int x6]) [] (cd f A R wr) (fun q => ∃ (f' : Nat → Int32) (A' : Nat → List Int32) (R' : Nat → Value) (l : Int64), q = (some (.long l), cd f' A' R' wr, 0, 0) ∧ CI f' A' R' ∧ (∀ k : Nat, k ≠ 529 → k ≠ 530 → k ≠ 881 → k ≠ 882 → k ≠ 886 → k ≠ 887 → f' k = f k) ∧ (∀ k : Nat, k ≠ 39 → k ≠ 40 → k ≠ 41 → k ≠ 65 → k ≠ 66 → k ≠ 67 → A' k = A k) ∧ (∀ k : Nat, k ≠ 0 → k ≠ 2 → k ≠ 5 → R' k = R k) ∧ ((True))) := by
  show pmE pg X pg_tyl pg_cl (d + 11) 139 0 [.ref 0, .int x1, .int x2, .int x3, .int x4, .int x5, .int x6] [] (cd f A R wr) _
  refine pe_aload_n (j := 0) (by decide +kernel) rfl ?_
  refine pe_iload_n (j := 1) (by decide +kernel) rfl ?_
  refine pe_iload_n (j := 2) (by decide +kernel) rfl ?_
  refine pe_iload_n (j := 3) (by decide +kernel) rfl ?_
  refine pe_iload (j := 4) (by decide +kernel) rfl ?_
  refine pe_iload (j := 5) (by decide +kernel) rfl ?_
  refine pz_callV (j := 262) (mj := 131) (by decide +kernel) (cll_V (args := [.int x5, .int x4, .int x3, .int x2, .int x1]) (n := 5) (by decide +kernel) rfl rfl cd_o0 (by decide +kernel) (Nat.le_of_ble_eq_true rfl) (Nat.le_of_ble_eq_true rfl)) (CM_131 hX hI) (fun q1a q1b q1c q1d hqq1 => ?_)
  obtain ⟨f2, A3, R4, rq1, eq1, hIq1, hGq1, hFq1, hHq1, kq1⟩ := hqq1
  cases eq1
  refine ⟨rfl, rfl, ?_⟩
  rcases kq1 with kq1 | kq1
  · skip
    obtain ⟨erq1, kq1⟩ := kq1
    subst erq1
    show pmE pg X pg_tyl pg_cl (d + 11) 139 11 [.ref 0, .int x1, .int x2, .int x3, .int x4, .int x5, .int x6] [.int 0] (cd f2 A3 R4 wr) _
    refine pz_if_ne (off := 7) (t := 18) (by decide +kernel) (by decide) rfl kz_0 (fun h5 => by omega) (fun h5 => ?_)
    refine pw_ldc2 (j := 274) (v := (-1)) (by decide +kernel) (by decide +kernel) (fun l6 => ?_)
    exact pe_lret (by decide +kernel) rfl ⟨f2, A3, R4, l6, rfl, hIq1, (fun k n529 n530 n881 n882 n886 n887 => (hGq1 k n529 n530 n881 n882 n886 n887)), (fun k n39 n40 n41 n65 n66 n67 => (hFq1 k n39 n40 n41 n65 n66 n67)), (fun k n0 n2 n5 => (hHq1 k n0 n2 n5)), trivial⟩
  · skip
    obtain ⟨erq1, kq1⟩ := kq1
    subst erq1
    obtain ⟨⟨v8, hv8, hR0q1⟩, kq1⟩ := kq1
    have bv8 := VV_b hv8
    show pmE pg X pg_tyl pg_cl (d + 11) 139 11 [.ref 0, .int x1, .int x2, .int x3, .int x4, .int x5, .int x6] [.int 1] (cd f2 A3 R4 wr) _
    refine pz_if_ne (off := 7) (t := 18) (by decide +kernel) (by decide) rfl kz_1 (fun h7 => ?_) (fun h7 => by omega)
    refine pe_iload (j := 6) (by decide +kernel) rfl ?_
    have lw9 := zi_lo x6
    have uw9 := zi_hi x6
    refine pz_if_eq (off := 16) (t := 36) (by decide +kernel) (by decide) rfl rfl (fun h8 => ?_) (fun h8 => ?_)
    · skip
      refine pe_aload_n (j := 0) (by decide +kernel) rfl ?_
      refine pe_get (j := 48) (ci := 11) (n := 6) (by decide +kernel) (by decide +kernel) cd_o0 rfl ?_
      refine pe_get (j := 280) (ci := 6) (n := 8) (by decide +kernel) (by decide +kernel) cd_o55 rfl ?_
      obtain ⟨l10, hl10⟩ := hIq1.2.2.2.1
      refine pe_topV (v := .long l10) (hl10) ?_
      exact pe_lret (by decide +kernel) rfl ⟨f2, A3, R4, l10, rfl, hIq1, (fun k n529 n530 n881 n882 n886 n887 => (hGq1 k n529 n530 n881 n882 n886 n887)), (fun k n39 n40 n41 n65 n66 n67 => (hFq1 k n39 n40 n41 n65 n66 n67)), (fun k n0 n2 n5 => (hHq1 k n0 n2 n5)), trivial⟩
    · skip
      refine pe_aload_n (j := 0) (by decide +kernel) rfl ?_
      refine pe_get (j := 48) (ci := 11) (n := 6) (by decide +kernel) (by decide +kernel) cd_o0 rfl ?_
      refine pe_get (j := 265) (ci := 6) (n := 6) (by decide +kernel) (by decide +kernel) cd_o55 rfl ?_
      have hr_f2_886 := cf_886 hIq1
      refine pz_callS (j := 276) (mj := 138) (by decide +kernel) (by decide +kernel) rfl (CM_138 hX hIq1) (fun q11a q11b q11c q11d hqq11 => ?_)
      obtain ⟨lq11, eq11, kq11⟩ := hqq11
      cases eq11
      refine ⟨rfl, rfl, ?_⟩
      show pmE pg X pg_tyl pg_cl (d + 11) 139 33 [.ref 0, .int x1, .int x2, .int x3, .int x4, .int x5, .int x6] [.long lq11] (cd f2 A3 R4 wr) _
      refine pe_goto (off := 10) (t := 43) (by decide +kernel) (by decide) rfl ?_
      exact pe_lret (by decide +kernel) rfl ⟨f2, A3, R4, lq11, rfl, hIq1, (fun k n529 n530 n881 n882 n886 n887 => (hGq1 k n529 n530 n881 n882 n886 n887)), (fun k n39 n40 n41 n65 n66 n67 => (hFq1 k n39 n40 n41 n65 n66 n67)), (fun k n0 n2 n5 => (hHq1 k n0 n2 n5)), trivial⟩
set_option maxRecDepth 100000 in
set_option maxHeartbeats 8000000 in
theorem CM_140 {X : pm_X} {d : Nat} {wr : pm_W} {f : Nat → Int32} {A : Nat → List Int32} {R : Nat → Value} {x1 x2 x3 x4 : Int32} (hX : XO X) (hI : CI f A R) : pmE pg X pg_tyl pg_cl (d + 7) 140 0 (pm_ent (pm_max pg 140) [.ref 0, .int x1, .int x2, .int x3, .int x4]) [] (cd f A R wr) (fun q => ∃ (f' : Nat → Int32) (A' : Nat → List Int32) (R' : Nat → Value) (r : Int32), q = (some (.int r), cd f' A' R' wr, 0, 0) ∧ CI f' A' R' ∧ (∀ k : Nat, k ≠ 529 → k ≠ 530 → f' k = f k) ∧ (∀ k : Nat, k ≠ 39 → k ≠ 40 → k ≠ 41 → A' k = A k) ∧ (∀ k : Nat, k ≠ 0 → R' k = R k) ∧ ((True ∧ True))) := by
  show pmE pg X pg_tyl pg_cl (d + 7) 140 0 [.ref 0, .int x1, .int x2, .int x3, .int x4, pm_dead, pm_dead] [] (cd f A R wr) _
  refine pe_aload_n (j := 0) (by decide +kernel) rfl ?_
  refine pe_iload_n (j := 1) (by decide +kernel) rfl ?_
  refine pe_iload_n (j := 2) (by decide +kernel) rfl ?_
  refine pe_iload_n (j := 3) (by decide +kernel) rfl ?_
  refine pe_iload (j := 4) (by decide +kernel) rfl ?_
  refine pz_callV (j := 284) (mj := 141) (by decide +kernel) (cll_V (args := [.int x4, .int x3, .int x2, .int x1]) (n := 4) (by decide +kernel) rfl rfl cd_o0 (by decide +kernel) (Nat.le_of_ble_eq_true rfl) (Nat.le_of_ble_eq_true rfl)) (CM_141 hX hI) (fun q1a q1b q1c q1d hqq1 => ?_)
  obtain ⟨f2, A3, R4, rq1, eq1, hIq1, hGq1, hFq1, hHq1, kq1⟩ := hqq1
  cases eq1
  refine ⟨rfl, rfl, ?_⟩
  rcases kq1 with kq1 | kq1
  · skip
    obtain ⟨erq1, kq1⟩ := kq1
    subst erq1
    show pmE pg X pg_tyl pg_cl (d + 7) 140 9 [.ref 0, .int x1, .int x2, .int x3, .int x4, pm_dead, pm_dead] [.int 0] (cd f2 A3 R4 wr) _
    refine pz_if_ne (off := 5) (t := 14) (by decide +kernel) (by decide) rfl kz_0 (fun h5 => by omega) (fun h5 => ?_)
    refine pe_iconstv (n := (-1)) (v := (-1)) (by decide +kernel) (by decide +kernel) ?_
    exact pe_iret (by decide +kernel) rfl rfl ⟨f2, A3, R4, (-1), rfl, hIq1, (fun k n529 n530 => (hGq1 k n529 n530)), (fun k n39 n40 n41 => (hFq1 k n39 n40 n41)), (fun k n0 => (hHq1 k n0)), ⟨trivial, trivial⟩⟩
  · skip
    obtain ⟨erq1, kq1⟩ := kq1
    subst erq1
    obtain ⟨⟨v6, hv6, hR0q1⟩, kq1⟩ := kq1
    have bv6 := VV_b hv6
    show pmE pg X pg_tyl pg_cl (d + 7) 140 9 [.ref 0, .int x1, .int x2, .int x3, .int x4, pm_dead, pm_dead] [.int 1] (cd f2 A3 R4 wr) _
    refine pz_if_ne (off := 5) (t := 14) (by decide +kernel) (by decide) rfl kz_1 (fun h6 => ?_) (fun h6 => by omega)
    refine pe_aload_n (j := 0) (by decide +kernel) rfl ?_
    refine pe_get (j := 34) (ci := 11) (n := 4) (by decide +kernel) (by decide +kernel) cd_o0 rfl ?_
    refine pe_get (j := 287) (ci := 7) (n := 0) (by decide +kernel) (by decide +kernel) cd_o33 rfl ?_
    refine pe_topV (v := .ref v6) (hR0q1) ?_
    refine pe_astore (j := 5) (ls' := [.ref 0, .int x1, .int x2, .int x3, .int x4, .ref v6, pm_dead]) (by decide +kernel) (Nat.le_of_ble_eq_true rfl) rfl ?_
    refine pe_aload_n (j := 0) (by decide +kernel) rfl ?_
    refine pe_get (j := 34) (ci := 11) (n := 4) (by decide +kernel) (by decide +kernel) cd_o0 rfl ?_
    refine pe_aload (j := 5) (by decide +kernel) rfl ?_
    refine pe_iload (j := 4) (by decide +kernel) rfl ?_
    refine pe_iconstv (n := 1) (v := 1) (by decide +kernel) (by decide +kernel) ?_
    refine pi_V (j := 145) (mj := 65) (by decide +kernel) (cll_V (args := [.int 1, .int x4]) (n := 2) (by decide +kernel) rfl rfl (cv_o hv6) (by decide +kernel) (Nat.le_of_ble_eq_true rfl) (Nat.le_of_ble_eq_true rfl)) ?_
    show pmE pg X pg_tyl pg_cl (d + 6) 65 0 [.ref v6, .int x4, .int 1] [] (cd f2 A3 R4 wr) _
    refine pe_aload_n (j := 0) (by decide +kernel) rfl ?_
    refine pe_get (j := 25) (ci := 9) (n := 6) (by decide +kernel) (by decide +kernel) (cv_o hv6) rfl ?_
    refine pe_iload_n (j := 1) (by decide +kernel) rfl ?_
    refine pe_iconstv (n := 4) (v := 4) (by decide +kernel) (by decide +kernel) ?_
    refine pz_mul (by decide +kernel) rfl kz_4 (by omega) (by omega) (fun z7 hz7 => ?_)
    refine pe_iload_n (j := 2) (by decide +kernel) rfl ?_
    refine pz_add (by decide +kernel) hz7 kz_1 (by omega) (by omega) (fun z8 hz8 => ?_)
    clear hz7
    refine pz_iald (by decide +kernel) (cv_a4 hv6) (cv_l4 hv6 hIq1) hz8 (by omega) (by omega) (fun v9 ev9 => ?_)
    have rv9 : 0 ≤ v9.toInt ∧ v9.toInt ≤ 8 := ct0_m (cv_t4 hv6 hIq1 ev9) (by omega)
    rw [show A3 (v6 + 4) = A (v6 + 4) from (hFq1 (v6 + 4) (by omega) (by omega) (by omega))] at ev9
    clear hz8
    refine pe_iret (by decide +kernel) rfl rfl ⟨rfl, rfl, ?_⟩
    show pmE pg X pg_tyl pg_cl (d + 7) 140 35 [.ref 0, .int x1, .int x2, .int x3, .int x4, .ref v6, pm_dead] [.int v9, .ref 33] (cd f2 A3 R4 wr) _
    refine pe_aload (j := 5) (by decide +kernel) rfl ?_
    refine pe_iload (j := 4) (by decide +kernel) rfl ?_
    refine pe_iconstv (n := 2) (v := 2) (by decide +kernel) (by decide +kernel) ?_
    refine pi_V (j := 145) (mj := 65) (by decide +kernel) (cll_V (args := [.int 2, .int x4]) (n := 2) (by decide +kernel) rfl rfl (cv_o hv6) (by decide +kernel) (Nat.le_of_ble_eq_true rfl) (Nat.le_of_ble_eq_true rfl)) ?_
    show pmE pg X pg_tyl pg_cl (d + 6) 65 0 [.ref v6, .int x4, .int 2] [] (cd f2 A3 R4 wr) _
    refine pe_aload_n (j := 0) (by decide +kernel) rfl ?_
    refine pe_get (j := 25) (ci := 9) (n := 6) (by decide +kernel) (by decide +kernel) (cv_o hv6) rfl ?_
    refine pe_iload_n (j := 1) (by decide +kernel) rfl ?_
    refine pe_iconstv (n := 4) (v := 4) (by decide +kernel) (by decide +kernel) ?_
    refine pz_mul (by decide +kernel) rfl kz_4 (by omega) (by omega) (fun z10 hz10 => ?_)
    refine pe_iload_n (j := 2) (by decide +kernel) rfl ?_
    refine pz_add (by decide +kernel) hz10 kz_2 (by omega) (by omega) (fun z11 hz11 => ?_)
    clear hz10
    refine pz_iald (by decide +kernel) (cv_a4 hv6) (cv_l4 hv6 hIq1) hz11 (by omega) (by omega) (fun v12 ev12 => ?_)
    rw [show A3 (v6 + 4) = A (v6 + 4) from (hFq1 (v6 + 4) (by omega) (by omega) (by omega))] at ev12
    clear hz11
    refine pe_iret (by decide +kernel) rfl rfl ⟨rfl, rfl, ?_⟩
    show pmE pg X pg_tyl pg_cl (d + 7) 140 43 [.ref 0, .int x1, .int x2, .int x3, .int x4, .ref v6, pm_dead] [.int v12, .int v9, .ref 33] (cd f2 A3 R4 wr) _
    refine pz_callV (j := 291) (mj := 142) (by decide +kernel) (cll_V (args := [.int v12, .int v9]) (n := 2) (by decide +kernel) rfl rfl cd_o33 (by decide +kernel) (Nat.le_of_ble_eq_true rfl) (Nat.le_of_ble_eq_true rfl)) (CM_142 hX hIq1 hv6 (hR0q1)) (fun q13a q13b q13c q13d hqq13 => ?_)
    obtain ⟨rq13, eq13, kq13⟩ := hqq13
    cases eq13
    refine ⟨rfl, rfl, ?_⟩
    show pmE pg X pg_tyl pg_cl (d + 7) 140 46 [.ref 0, .int x1, .int x2, .int x3, .int x4, .ref v6, pm_dead] [.int rq13] (cd f2 A3 R4 wr) _
    refine pe_istore (j := 6) (ls' := [.ref 0, .int x1, .int x2, .int x3, .int x4, .ref v6, .int rq13]) (by decide +kernel) (Nat.le_of_ble_eq_true rfl) rfl ?_
    refine pe_iload (j := 6) (by decide +kernel) rfl ?_
    refine pe_aload (j := 5) (by decide +kernel) rfl ?_
    refine pe_iload (j := 4) (by decide +kernel) rfl ?_
    refine pe_iconstv (n := 0) (v := 0) (by decide +kernel) (by decide +kernel) ?_
    refine pi_V (j := 145) (mj := 65) (by decide +kernel) (cll_V (args := [.int 0, .int x4]) (n := 2) (by decide +kernel) rfl rfl (cv_o hv6) (by decide +kernel) (Nat.le_of_ble_eq_true rfl) (Nat.le_of_ble_eq_true rfl)) ?_
    show pmE pg X pg_tyl pg_cl (d + 6) 65 0 [.ref v6, .int x4, .int 0] [] (cd f2 A3 R4 wr) _
    refine pe_aload_n (j := 0) (by decide +kernel) rfl ?_
    refine pe_get (j := 25) (ci := 9) (n := 6) (by decide +kernel) (by decide +kernel) (cv_o hv6) rfl ?_
    refine pe_iload_n (j := 1) (by decide +kernel) rfl ?_
    refine pe_iconstv (n := 4) (v := 4) (by decide +kernel) (by decide +kernel) ?_
    refine pz_mul (by decide +kernel) rfl kz_4 (by omega) (by omega) (fun z14 hz14 => ?_)
    refine pe_iload_n (j := 2) (by decide +kernel) rfl ?_
    refine pz_add (by decide +kernel) hz14 kz_0 (by omega) (by omega) (fun z15 hz15 => ?_)
    clear hz14
    refine pz_iald (by decide +kernel) (cv_a4 hv6) (cv_l4 hv6 hIq1) hz15 (by omega) (by omega) (fun v16 ev16 => ?_)
    have rv16 : 0 ≤ v16.toInt ∧ v16.toInt ≤ 8 := ct0_m (cv_t4 hv6 hIq1 ev16) (by omega)
    rw [show A3 (v6 + 4) = A (v6 + 4) from (hFq1 (v6 + 4) (by omega) (by omega) (by omega))] at ev16
    clear hz15
    refine pe_iret (by decide +kernel) rfl rfl ⟨rfl, rfl, ?_⟩
    show pmE pg X pg_tyl pg_cl (d + 7) 140 58 [.ref 0, .int x1, .int x2, .int x3, .int x4, .ref v6, .int rq13] [.int v16, .int rq13] (cd f2 A3 R4 wr) _
    refine pi_S (j := 294) (mj := 89) (by decide +kernel) (by decide +kernel) rfl ?_
    show pmE pg X pg_tyl pg_cl (d + 6) 89 0 [.int rq13, .int v16] [] (cd f2 A3 R4 wr) _
    refine pe_iload_n (j := 0) (by decide +kernel) rfl ?_
    refine pe_iload_n (j := 1) (by decide +kernel) rfl ?_
    refine pw_shr (by decide +kernel) (fun z17 => ?_)
    refine pe_iconstv (n := 1) (v := 1) (by decide +kernel) (by decide +kernel) ?_
    refine pz_and1 (by decide +kernel) (fun z18 hz18 => ?_)
    refine pz_if_eq (off := 7) (t := 12) (by decide +kernel) (by decide) rfl rfl (fun h19 => ?_) (fun h19 => ?_)
    · skip
      refine pe_iconstv (n := 0) (v := 0) (by decide +kernel) (by decide +kernel) ?_
      refine pe_iret (by decide +kernel) rfl rfl ⟨rfl, rfl, ?_⟩
      show pmE pg X pg_tyl pg_cl (d + 7) 140 61 [.ref 0, .int x1, .int x2, .int x3, .int x4, .ref v6, .int rq13] [.int 0] (cd f2 A3 R4 wr) _
      refine pz_if_eq (off := 7) (t := 68) (by decide +kernel) (by decide) rfl kz_0 (fun h20 => ?_) (fun h20 => by omega)
      refine pe_iload (j := 6) (by decide +kernel) rfl ?_
      exact pe_iret (by decide +kernel) rfl rfl ⟨f2, A3, R4, rq13, rfl, hIq1, (fun k n529 n530 => (hGq1 k n529 n530)), (fun k n39 n40 n41 => (hFq1 k n39 n40 n41)), (fun k n0 => (hHq1 k n0)), ⟨trivial, trivial⟩⟩
    · skip
      refine pe_iconstv (n := 1) (v := 1) (by decide +kernel) (by decide +kernel) ?_
      refine pe_goto (off := 4) (t := 13) (by decide +kernel) (by decide) rfl ?_
      refine pe_iret (by decide +kernel) rfl rfl ⟨rfl, rfl, ?_⟩
      show pmE pg X pg_tyl pg_cl (d + 7) 140 61 [.ref 0, .int x1, .int x2, .int x3, .int x4, .ref v6, .int rq13] [.int 1] (cd f2 A3 R4 wr) _
      refine pz_if_eq (off := 7) (t := 68) (by decide +kernel) (by decide) rfl kz_1 (fun h21 => by omega) (fun h21 => ?_)
      refine pe_iconstv (n := (-1)) (v := (-1)) (by decide +kernel) (by decide +kernel) ?_
      refine pe_goto (off := 5) (t := 70) (by decide +kernel) (by decide) rfl ?_
      exact pe_iret (by decide +kernel) rfl rfl ⟨f2, A3, R4, (-1), rfl, hIq1, (fun k n529 n530 => (hGq1 k n529 n530)), (fun k n39 n40 n41 => (hFq1 k n39 n40 n41)), (fun k n0 => (hHq1 k n0)), ⟨trivial, trivial⟩⟩
set_option maxRecDepth 100000 in
set_option maxHeartbeats 8000000 in
theorem CM_145 {X : pm_X} {d : Nat} {wr : pm_W} {f : Nat → Int32} {A : Nat → List Int32} {R : Nat → Value} {x1 x2 x3 x4 x5 : Int32} (hX : XO X) (hI : CI f A R) : pmE pg X pg_tyl pg_cl (d + 10) 145 0 (pm_ent (pm_max pg 145) [.ref 0, .int x1, .int x2, .int x3, .int x4, .int x5]) [] (cd f A R wr) (fun q => ∃ (f' : Nat → Int32) (A' : Nat → List Int32) (R' : Nat → Value) (r : Int32), q = (some (.int r), cd f' A' R' wr, 0, 0) ∧ CI f' A' R' ∧ (∀ k : Nat, k ≠ 529 → k ≠ 530 → k ≠ 881 → k ≠ 882 → k ≠ 886 → k ≠ 887 → f' k = f k) ∧ (∀ k : Nat, k ≠ 39 → k ≠ 40 → k ≠ 41 → k ≠ 65 → k ≠ 66 → k ≠ 67 → A' k = A k) ∧ (∀ k : Nat, k ≠ 0 → k ≠ 2 → k ≠ 5 → R' k = R k) ∧ ((True ∧ True))) := by
  show pmE pg X pg_tyl pg_cl (d + 10) 145 0 [.ref 0, .int x1, .int x2, .int x3, .int x4, .int x5] [] (cd f A R wr) _
  refine pe_aload_n (j := 0) (by decide +kernel) rfl ?_
  refine pe_iload_n (j := 1) (by decide +kernel) rfl ?_
  refine pe_iload_n (j := 2) (by decide +kernel) rfl ?_
  refine pe_iload_n (j := 3) (by decide +kernel) rfl ?_
  refine pe_iload (j := 4) (by decide +kernel) rfl ?_
  refine pz_callV (j := 284) (mj := 141) (by decide +kernel) (cll_V (args := [.int x4, .int x3, .int x2, .int x1]) (n := 4) (by decide +kernel) rfl rfl cd_o0 (by decide +kernel) (Nat.le_of_ble_eq_true rfl) (Nat.le_of_ble_eq_true rfl)) (CM_141 hX hI) (fun q1a q1b q1c q1d hqq1 => ?_)
  obtain ⟨f2, A3, R4, rq1, eq1, hIq1, hGq1, hFq1, hHq1, kq1⟩ := hqq1
  cases eq1
  refine ⟨rfl, rfl, ?_⟩
  rcases kq1 with kq1 | kq1
  · skip
    obtain ⟨erq1, kq1⟩ := kq1
    subst erq1
    show pmE pg X pg_tyl pg_cl (d + 10) 145 9 [.ref 0, .int x1, .int x2, .int x3, .int x4, .int x5] [.int 0] (cd f2 A3 R4 wr) _
    refine pz_if_eq (off := 18) (t := 27) (by decide +kernel) (by decide) rfl kz_0 (fun h5 => ?_) (fun h5 => by omega)
    refine pe_iconstv (n := (-1)) (v := (-1)) (by decide +kernel) (by decide +kernel) ?_
    exact pe_iret (by decide +kernel) rfl rfl ⟨f2, A3, R4, (-1), rfl, hIq1, (fun k n529 n530 n881 n882 n886 n887 => (hGq1 k n529 n530)), (fun k n39 n40 n41 n65 n66 n67 => (hFq1 k n39 n40 n41)), (fun k n0 n2 n5 => (hHq1 k n0)), ⟨trivial, trivial⟩⟩
  · skip
    obtain ⟨erq1, kq1⟩ := kq1
    subst erq1
    obtain ⟨⟨v6, hv6, hR0q1⟩, kq1⟩ := kq1
    have bv6 := VV_b hv6
    show pmE pg X pg_tyl pg_cl (d + 10) 145 9 [.ref 0, .int x1, .int x2, .int x3, .int x4, .int x5] [.int 1] (cd f2 A3 R4 wr) _
    refine pz_if_eq (off := 18) (t := 27) (by decide +kernel) (by decide) rfl kz_1 (fun h6 => by omega) (fun h6 => ?_)
    refine pe_aload_n (j := 0) (by decide +kernel) rfl ?_
    refine pe_get (j := 34) (ci := 11) (n := 4) (by decide +kernel) (by decide +kernel) cd_o0 rfl ?_
    refine pe_get (j := 287) (ci := 7) (n := 0) (by decide +kernel) (by decide +kernel) cd_o33 rfl ?_
    refine pe_topV (v := .ref v6) (hR0q1) ?_
    refine pe_iload (j := 5) (by decide +kernel) rfl ?_
    refine pi_V (j := 126) (mj := 61) (by decide +kernel) (cll_V (args := [.int x5]) (n := 1) (by decide +kernel) rfl rfl (cv_o hv6) (by decide +kernel) (Nat.le_of_ble_eq_true rfl) (Nat.le_of_ble_eq_true rfl)) ?_
    show pmE pg X pg_tyl pg_cl (d + 9) 61 0 [.ref v6, .int x5] [] (cd f2 A3 R4 wr) _
    refine pe_iload_n (j := 1) (by decide +kernel) rfl ?_
    have lw8 := zi_lo x5
    have uw8 := zi_hi x5
    refine pz_if_lt (off := 15) (t := 16) (by decide +kernel) (by decide) rfl rfl (fun h7 => ?_) (fun h7 => ?_)
    · skip
      refine pe_iconstv (n := 0) (v := 0) (by decide +kernel) (by decide +kernel) ?_
      refine pe_iret (by decide +kernel) rfl rfl ⟨rfl, rfl, ?_⟩
      show pmE pg X pg_tyl pg_cl (d + 10) 145 24 [.ref 0, .int x1, .int x2, .int x3, .int x4, .int x5] [.int 0] (cd f2 A3 R4 wr) _
      refine pz_if_ne (off := 5) (t := 29) (by decide +kernel) (by decide) rfl kz_0 (fun h9 => by omega) (fun h9 => ?_)
      refine pe_iconstv (n := (-1)) (v := (-1)) (by decide +kernel) (by decide +kernel) ?_
      exact pe_iret (by decide +kernel) rfl rfl ⟨f2, A3, R4, (-1), rfl, hIq1, (fun k n529 n530 n881 n882 n886 n887 => (hGq1 k n529 n530)), (fun k n39 n40 n41 n65 n66 n67 => (hFq1 k n39 n40 n41)), (fun k n0 n2 n5 => (hHq1 k n0)), ⟨trivial, trivial⟩⟩
    · skip
      refine pe_iload_n (j := 1) (by decide +kernel) rfl ?_
      refine pe_aload_n (j := 0) (by decide +kernel) rfl ?_
      refine pe_get (j := 9) (ci := 9) (n := 0) (by decide +kernel) (by decide +kernel) (cv_o hv6) rfl ?_
      have hr_f_16v6 := cv_people hv6 hI
      refine pe_top (v := (f (16 * v6))) ((hGq1 (16 * v6) (by omega) (by omega))) ?_
      refine pz_icmp_ge (off := 7) (t := 16) (by decide +kernel) (by decide) rfl rfl rfl (fun h10 => ?_) (fun h10 => ?_)
      · skip
        refine pe_iconstv (n := 0) (v := 0) (by decide +kernel) (by decide +kernel) ?_
        refine pe_iret (by decide +kernel) rfl rfl ⟨rfl, rfl, ?_⟩
        show pmE pg X pg_tyl pg_cl (d + 10) 145 24 [.ref 0, .int x1, .int x2, .int x3, .int x4, .int x5] [.int 0] (cd f2 A3 R4 wr) _
        refine pz_if_ne (off := 5) (t := 29) (by decide +kernel) (by decide) rfl kz_0 (fun h11 => by omega) (fun h11 => ?_)
        refine pe_iconstv (n := (-1)) (v := (-1)) (by decide +kernel) (by decide +kernel) ?_
        exact pe_iret (by decide +kernel) rfl rfl ⟨f2, A3, R4, (-1), rfl, hIq1, (fun k n529 n530 n881 n882 n886 n887 => (hGq1 k n529 n530)), (fun k n39 n40 n41 n65 n66 n67 => (hFq1 k n39 n40 n41)), (fun k n0 n2 n5 => (hHq1 k n0)), ⟨trivial, trivial⟩⟩
      · skip
        refine pe_iconstv (n := 1) (v := 1) (by decide +kernel) (by decide +kernel) ?_
        refine pe_goto (off := 4) (t := 17) (by decide +kernel) (by decide) rfl ?_
        refine pe_iret (by decide +kernel) rfl rfl ⟨rfl, rfl, ?_⟩
        show pmE pg X pg_tyl pg_cl (d + 10) 145 24 [.ref 0, .int x1, .int x2, .int x3, .int x4, .int x5] [.int 1] (cd f2 A3 R4 wr) _
        refine pz_if_ne (off := 5) (t := 29) (by decide +kernel) (by decide) rfl kz_1 (fun h12 => ?_) (fun h12 => by omega)
        refine pe_aload_n (j := 0) (by decide +kernel) rfl ?_
        refine pe_get (j := 48) (ci := 11) (n := 6) (by decide +kernel) (by decide +kernel) cd_o0 rfl ?_
        refine pe_aload_n (j := 0) (by decide +kernel) rfl ?_
        refine pe_get (j := 34) (ci := 11) (n := 4) (by decide +kernel) (by decide +kernel) cd_o0 rfl ?_
        refine pe_iload (j := 4) (by decide +kernel) rfl ?_
        refine pe_iload (j := 5) (by decide +kernel) rfl ?_
        refine pz_callV (j := 298) (mj := 146) (by decide +kernel) (cll_V (args := [.int x5, .int x4, .ref 33]) (n := 3) (by decide +kernel) rfl rfl cd_o55 (by decide +kernel) (Nat.le_of_ble_eq_true rfl) (Nat.le_of_ble_eq_true rfl)) (CM_146 hX hIq1 hv6 (hR0q1) (by omega) (by omega)) (fun q13a q13b q13c q13d hqq13 => ?_)
        obtain ⟨f14, A15, R16, rq13, eq13, hIq13, hGq13, hFq13, hHq13, kq13⟩ := hqq13
        cases eq13
        refine ⟨rfl, rfl, ?_⟩
        show pmE pg X pg_tyl pg_cl (d + 10) 145 44 [.ref 0, .int x1, .int x2, .int x3, .int x4, .int x5] [.int rq13] (cd f14 A15 R16 wr) _
        exact pe_iret (by decide +kernel) rfl rfl ⟨f14, A15, R16, rq13, rfl, hIq13, (fun k n529 n530 n881 n882 n886 n887 => ((hGq13 k n881 n882 n886 n887)).trans ((hGq1 k n529 n530))), (fun k n39 n40 n41 n65 n66 n67 => ((hFq13 k n65 n66 n67)).trans ((hFq1 k n39 n40 n41))), (fun k n0 n2 n5 => ((hHq13 k n2 n5)).trans ((hHq1 k n0))), ⟨trivial, trivial⟩⟩
end
section
set_option maxRecDepth 100000 in
set_option maxHeartbeats 8000000 in
theorem CM_148 {X : pm_X} {d : Nat} {wr : pm_W} {f : Nat → Int32} {A : Nat → List Int32} {R : Nat → Value} {x1 x2 x3 x4 x5 x6 : Int32} (hX : XO X) (hI : CI f A R) : pmE pg X pg_tyl pg_cl (d + 7) 148 0 (pm_ent (pm_max pg 148) [.ref 0, .int x1, .int x2, .int x3, .int x4, .int x5, .int x6]) [] (cd f A R wr) (fun q => ∃ (f' : Nat → Int32) (A' : Nat → List Int32) (R' : Nat → Value) (r : Int32), q = (some (.int r), cd f' A' R' wr, 0, 0) ∧ CI f' A' R' ∧ (∀ k : Nat, k ≠ 529 → k ≠ 530 → f' k = f k) ∧ (∀ k : Nat, k ≠ 39 → k ≠ 40 → k ≠ 41 → A' k = A k) ∧ (∀ k : Nat, k ≠ 0 → R' k = R k) ∧ ((((-1) ≤ r.toInt ∧ r.toInt ≤ 8) ∧ True))) := by
  show pmE pg X pg_tyl pg_cl (d + 7) 148 0 [.ref 0, .int x1, .int x2, .int x3, .int x4, .int x5, .int x6] [] (cd f A R wr) _
  refine pe_iload (j := 6) (by decide +kernel) rfl ?_
  refine pe_iconstv (n := 1) (v := 1) (by decide +kernel) (by decide +kernel) ?_
  have lw2 := zi_lo x6
  have uw2 := zi_hi x6
  refine pz_icmp_lt (off := 24) (t := 27) (by decide +kernel) (by decide) rfl rfl kz_1 (fun h1 => ?_) (fun h1 => ?_)
  · skip
    refine pe_iconstv (n := (-1)) (v := (-1)) (by decide +kernel) (by decide +kernel) ?_
    exact pe_iret (by decide +kernel) rfl rfl ⟨f, A, R, (-1), rfl, hI, (fun k n529 n530 => rfl), (fun k n39 n40 n41 => rfl), (fun k n0 => rfl), ⟨(by decide +kernel), trivial⟩⟩
  · skip
    refine pe_iload (j := 6) (by decide +kernel) rfl ?_
    refine pe_bipushv (n := 99) (v := 99) (by decide +kernel) (by decide +kernel) ?_
    refine pz_icmp_gt (off := 17) (t := 27) (by decide +kernel) (by decide) rfl rfl kz_99 (fun h3 => ?_) (fun h3 => ?_)
    · skip
      refine pe_iconstv (n := (-1)) (v := (-1)) (by decide +kernel) (by decide +kernel) ?_
      exact pe_iret (by decide +kernel) rfl rfl ⟨f, A, R, (-1), rfl, hI, (fun k n529 n530 => rfl), (fun k n39 n40 n41 => rfl), (fun k n0 => rfl), ⟨(by decide +kernel), trivial⟩⟩
    · skip
      refine pe_aload_n (j := 0) (by decide +kernel) rfl ?_
      refine pe_iload_n (j := 1) (by decide +kernel) rfl ?_
      refine pe_iload_n (j := 2) (by decide +kernel) rfl ?_
      refine pe_iload_n (j := 3) (by decide +kernel) rfl ?_
      refine pe_iload (j := 4) (by decide +kernel) rfl ?_
      refine pe_iload (j := 5) (by decide +kernel) rfl ?_
      refine pz_callV (j := 182) (mj := 97) (by decide +kernel) (cll_V (args := [.int x5, .int x4, .int x3, .int x2, .int x1]) (n := 5) (by decide +kernel) rfl rfl cd_o0 (by decide +kernel) (Nat.le_of_ble_eq_true rfl) (Nat.le_of_ble_eq_true rfl)) (CM_97 hX hI) (fun q4a q4b q4c q4d hqq4 => ?_)
      obtain ⟨f5, A6, R7, rq4, eq4, hIq4, hGq4, hFq4, hHq4, kq4⟩ := hqq4
      cases eq4
      refine ⟨rfl, rfl, ?_⟩
      rcases kq4 with kq4 | kq4
      · skip
        obtain ⟨erq4, kq4⟩ := kq4
        subst erq4
        show pmE pg X pg_tyl pg_cl (d + 7) 148 24 [.ref 0, .int x1, .int x2, .int x3, .int x4, .int x5, .int x6] [.int 0] (cd f5 A6 R7 wr) _
        refine pz_if_ne (off := 5) (t := 29) (by decide +kernel) (by decide) rfl kz_0 (fun h8 => by omega) (fun h8 => ?_)
        refine pe_iconstv (n := (-1)) (v := (-1)) (by decide +kernel) (by decide +kernel) ?_
        exact pe_iret (by decide +kernel) rfl rfl ⟨f5, A6, R7, (-1), rfl, hIq4, (fun k n529 n530 => (hGq4 k n529 n530)), (fun k n39 n40 n41 => (hFq4 k n39 n40 n41)), (fun k n0 => (hHq4 k n0)), ⟨(by decide +kernel), trivial⟩⟩
      · skip
        obtain ⟨erq4, kq4⟩ := kq4
        subst erq4
        obtain ⟨⟨v21, hv21, hR0q4⟩, kq4⟩ := kq4
        have bv21 := VV_b hv21
        show pmE pg X pg_tyl pg_cl (d + 7) 148 24 [.ref 0, .int x1, .int x2, .int x3, .int x4, .int x5, .int x6] [.int 1] (cd f5 A6 R7 wr) _
        refine pz_if_ne (off := 5) (t := 29) (by decide +kernel) (by decide) rfl kz_1 (fun h9 => ?_) (fun h9 => by omega)
        refine pe_iload (j := 4) (by decide +kernel) rfl ?_
        refine pe_iload (j := 5) (by decide +kernel) rfl ?_
        refine pz_icmp_eq (off := 23) (t := 56) (by decide +kernel) (by decide) rfl rfl rfl (fun h10 => ?_) (fun h10 => ?_)
        · skip
          refine pe_iconstv (n := (-1)) (v := (-1)) (by decide +kernel) (by decide +kernel) ?_
          exact pe_iret (by decide +kernel) rfl rfl ⟨f5, A6, R7, (-1), rfl, hIq4, (fun k n529 n530 => (hGq4 k n529 n530)), (fun k n39 n40 n41 => (hFq4 k n39 n40 n41)), (fun k n0 => (hHq4 k n0)), ⟨(by decide +kernel), trivial⟩⟩
        · skip
          refine pe_aload_n (j := 0) (by decide +kernel) rfl ?_
          refine pe_get (j := 34) (ci := 11) (n := 4) (by decide +kernel) (by decide +kernel) cd_o0 rfl ?_
          refine pe_get (j := 186) (ci := 7) (n := 3) (by decide +kernel) (by decide +kernel) cd_o33 rfl ?_
          refine pe_iload (j := 4) (by decide +kernel) rfl ?_
          refine pe_iload (j := 5) (by decide +kernel) rfl ?_
          refine pi_S (j := 139) (mj := 52) (by decide +kernel) (by decide +kernel) rfl ?_
          show pmE pg X pg_tyl pg_cl (d + 6) 52 0 [.int x4, .int x5] [] (cd f5 A6 R7 wr) _
          refine pe_iload_n (j := 0) (by decide +kernel) rfl ?_
          refine pe_bipushv (n := 9) (v := 9) (by decide +kernel) (by decide +kernel) ?_
          refine pz_mul (by decide +kernel) rfl kz_9 (by omega) (by omega) (fun z11 hz11 => ?_)
          refine pe_iload_n (j := 1) (by decide +kernel) rfl ?_
          refine pz_add (by decide +kernel) hz11 rfl (by omega) (by omega) (fun z12 hz12 => ?_)
          clear hz11
          refine pe_iret (by decide +kernel) rfl rfl ⟨rfl, rfl, ?_⟩
          show pmE pg X pg_tyl pg_cl (d + 7) 148 50 [.ref 0, .int x1, .int x2, .int x3, .int x4, .int x5, .int x6] [.int z12, .ref 39] (cd f5 A6 R7 wr) _
          refine pz_iald (by decide +kernel) cd_a39 (cl_39 hIq4) hz12 (by omega) (by omega) (fun v13 ev13 => ?_)
          clear hz12
          refine pe_iload (j := 6) (by decide +kernel) rfl ?_
          have lw15 := zi_lo v13
          have uw15 := zi_hi v13
          refine pz_icmp_ge (off := 5) (t := 58) (by decide +kernel) (by decide) rfl rfl rfl (fun h14 => ?_) (fun h14 => ?_)
          · skip
            refine pe_aload_n (j := 0) (by decide +kernel) rfl ?_
            refine pe_get (j := 34) (ci := 11) (n := 4) (by decide +kernel) (by decide +kernel) cd_o0 rfl ?_
            refine pe_iload (j := 4) (by decide +kernel) rfl ?_
            refine pe_iload (j := 5) (by decide +kernel) rfl ?_
            refine pe_iload (j := 6) (by decide +kernel) rfl ?_
            refine pz_callV (j := 302) (mj := 149) (by decide +kernel) (cll_V (args := [.int x6, .int x5, .int x4]) (n := 3) (by decide +kernel) rfl rfl cd_o33 (by decide +kernel) (Nat.le_of_ble_eq_true rfl) (Nat.le_of_ble_eq_true rfl)) (CM_149 hX hIq4 hv21 (hR0q4) (by omega) (by omega)) (fun q16a q16b q16c q16d hqq16 => ?_)
            obtain ⟨rq16, eq16, kq16⟩ := hqq16
            cases eq16
            refine ⟨rfl, rfl, ?_⟩
            show pmE pg X pg_tyl pg_cl (d + 7) 148 71 [.ref 0, .int x1, .int x2, .int x3, .int x4, .int x5, .int x6] [.int rq16] (cd f5 A6 R7 wr) _
            exact pe_iret (by decide +kernel) rfl rfl ⟨f5, A6, R7, rq16, rfl, hIq4, (fun k n529 n530 => (hGq4 k n529 n530)), (fun k n39 n40 n41 => (hFq4 k n39 n40 n41)), (fun k n0 => (hHq4 k n0)), ⟨(by omega), trivial⟩⟩
          · skip
            refine pe_iconstv (n := (-1)) (v := (-1)) (by decide +kernel) (by decide +kernel) ?_
            exact pe_iret (by decide +kernel) rfl rfl ⟨f5, A6, R7, (-1), rfl, hIq4, (fun k n529 n530 => (hGq4 k n529 n530)), (fun k n39 n40 n41 => (hFq4 k n39 n40 n41)), (fun k n0 => (hHq4 k n0)), ⟨(by decide +kernel), trivial⟩⟩
set_option maxRecDepth 100000 in
set_option maxHeartbeats 8000000 in
theorem CM_150 {X : pm_X} {d : Nat} {wr : pm_W} {f : Nat → Int32} {A : Nat → List Int32} {R : Nat → Value} {x1 x2 x3 x4 x5 x6 : Int32} (hX : XO X) (hI : CI f A R) : pmE pg X pg_tyl pg_cl (d + 9) 150 0 (pm_ent (pm_max pg 150) [.ref 0, .int x1, .int x2, .int x3, .int x4, .int x5, .int x6]) [] (cd f A R wr) (fun q => ∃ (f' : Nat → Int32) (A' : Nat → List Int32) (R' : Nat → Value) (r : Int32), q = (some (.int r), cd f' A' R' wr, 0, 0) ∧ CI f' A' R' ∧ (∀ k : Nat, k ≠ 529 → k ≠ 530 → k ≠ 882 → f' k = f k) ∧ (∀ k : Nat, k ≠ 39 → k ≠ 40 → k ≠ 41 → k ≠ 66 → A' k = A k) ∧ (∀ k : Nat, k ≠ 0 → k ≠ 2 → R' k = R k) ∧ ((True ∧ True))) := by
  show pmE pg X pg_tyl pg_cl (d + 9) 150 0 [.ref 0, .int x1, .int x2, .int x3, .int x4, .int x5, .int x6] [] (cd f A R wr) _
  refine pe_iload (j := 5) (by decide +kernel) rfl ?_
  refine pe_iconstv (n := 2) (v := 2) (by decide +kernel) (by decide +kernel) ?_
  have lw2 := zi_lo x5
  have uw2 := zi_hi x5
  refine pz_icmp_lt (off := 22) (t := 25) (by decide +kernel) (by decide) rfl rfl kz_2 (fun h1 => ?_) (fun h1 => ?_)
  · skip
    refine pe_iconstv (n := (-1)) (v := (-1)) (by decide +kernel) (by decide +kernel) ?_
    exact pe_iret (by decide +kernel) rfl rfl ⟨f, A, R, (-1), rfl, hI, (fun k n529 n530 n882 => rfl), (fun k n39 n40 n41 n66 => rfl), (fun k n0 n2 => rfl), ⟨trivial, trivial⟩⟩
  · skip
    refine pe_iload (j := 5) (by decide +kernel) rfl ?_
    refine pe_bipushv (n := 6) (v := 6) (by decide +kernel) (by decide +kernel) ?_
    refine pz_icmp_gt (off := 15) (t := 25) (by decide +kernel) (by decide) rfl rfl kz_6 (fun h3 => ?_) (fun h3 => ?_)
    · skip
      refine pe_iconstv (n := (-1)) (v := (-1)) (by decide +kernel) (by decide +kernel) ?_
      exact pe_iret (by decide +kernel) rfl rfl ⟨f, A, R, (-1), rfl, hI, (fun k n529 n530 n882 => rfl), (fun k n39 n40 n41 n66 => rfl), (fun k n0 n2 => rfl), ⟨trivial, trivial⟩⟩
    · skip
      refine pe_iload (j := 6) (by decide +kernel) rfl ?_
      have lw5 := zi_lo x6
      have uw5 := zi_hi x6
      refine pz_if_lt (off := 10) (t := 25) (by decide +kernel) (by decide) rfl rfl (fun h4 => ?_) (fun h4 => ?_)
      · skip
        refine pe_iconstv (n := (-1)) (v := (-1)) (by decide +kernel) (by decide +kernel) ?_
        exact pe_iret (by decide +kernel) rfl rfl ⟨f, A, R, (-1), rfl, hI, (fun k n529 n530 n882 => rfl), (fun k n39 n40 n41 n66 => rfl), (fun k n0 n2 => rfl), ⟨trivial, trivial⟩⟩
      · skip
        refine pe_iload (j := 6) (by decide +kernel) rfl ?_
        refine pe_bipushv (n := 99) (v := 99) (by decide +kernel) (by decide +kernel) ?_
        refine pz_icmp_le (off := 5) (t := 27) (by decide +kernel) (by decide) rfl rfl kz_99 (fun h6 => ?_) (fun h6 => ?_)
        · skip
          refine pe_aload_n (j := 0) (by decide +kernel) rfl ?_
          refine pe_iload_n (j := 1) (by decide +kernel) rfl ?_
          refine pe_iload_n (j := 2) (by decide +kernel) rfl ?_
          refine pe_iload_n (j := 3) (by decide +kernel) rfl ?_
          refine pe_iload (j := 4) (by decide +kernel) rfl ?_
          refine pz_callV (j := 192) (mj := 101) (by decide +kernel) (cll_V (args := [.int x4, .int x3, .int x2, .int x1]) (n := 4) (by decide +kernel) rfl rfl cd_o0 (by decide +kernel) (Nat.le_of_ble_eq_true rfl) (Nat.le_of_ble_eq_true rfl)) (CM_101 hX hI) (fun q7a q7b q7c q7d hqq7 => ?_)
          obtain ⟨f8, A9, R10, rq7, eq7, hIq7, hGq7, hFq7, hHq7, kq7⟩ := hqq7
          cases eq7
          refine ⟨rfl, rfl, ?_⟩
          rcases kq7 with kq7 | kq7
          · skip
            obtain ⟨erq7, kq7⟩ := kq7
            subst erq7
            show pmE pg X pg_tyl pg_cl (d + 9) 150 36 [.ref 0, .int x1, .int x2, .int x3, .int x4, .int x5, .int x6] [.int 0] (cd f8 A9 R10 wr) _
            refine pz_if_ne (off := 5) (t := 41) (by decide +kernel) (by decide) rfl kz_0 (fun h11 => by omega) (fun h11 => ?_)
            refine pe_iconstv (n := (-1)) (v := (-1)) (by decide +kernel) (by decide +kernel) ?_
            exact pe_iret (by decide +kernel) rfl rfl ⟨f8, A9, R10, (-1), rfl, hIq7, (fun k n529 n530 n882 => (hGq7 k n529 n530)), (fun k n39 n40 n41 n66 => (hFq7 k n39 n40 n41)), (fun k n0 n2 => (hHq7 k n0)), ⟨trivial, trivial⟩⟩
          · skip
            obtain ⟨erq7, kq7⟩ := kq7
            subst erq7
            obtain ⟨⟨v33, hv33, hR0q7⟩, kq7⟩ := kq7
            have bv33 := VV_b hv33
            show pmE pg X pg_tyl pg_cl (d + 9) 150 36 [.ref 0, .int x1, .int x2, .int x3, .int x4, .int x5, .int x6] [.int 1] (cd f8 A9 R10 wr) _
            refine pz_if_ne (off := 5) (t := 41) (by decide +kernel) (by decide) rfl kz_1 (fun h12 => ?_) (fun h12 => by omega)
            refine pe_aload_n (j := 0) (by decide +kernel) rfl ?_
            refine pe_get (j := 48) (ci := 11) (n := 6) (by decide +kernel) (by decide +kernel) cd_o0 rfl ?_
            refine pe_aload_n (j := 0) (by decide +kernel) rfl ?_
            refine pe_get (j := 34) (ci := 11) (n := 4) (by decide +kernel) (by decide +kernel) cd_o0 rfl ?_
            refine pe_iload (j := 4) (by decide +kernel) rfl ?_
            refine pe_iload (j := 5) (by decide +kernel) rfl ?_
            refine pe_iload (j := 6) (by decide +kernel) rfl ?_
            refine pz_callV (j := 306) (mj := 151) (by decide +kernel) (cll_V (args := [.int x6, .int x5, .int x4, .ref 33]) (n := 4) (by decide +kernel) rfl rfl cd_o55 (by decide +kernel) (Nat.le_of_ble_eq_true rfl) (Nat.le_of_ble_eq_true rfl)) (CM_151 hX hIq7 hv33 (hR0q7) (by omega)) (fun q13a q13b q13c q13d hqq13 => ?_)
            obtain ⟨f14, A15, R16, rq13, eq13, hIq13, hGq13, hFq13, hHq13, kq13⟩ := hqq13
            cases eq13
            refine ⟨rfl, rfl, ?_⟩
            show pmE pg X pg_tyl pg_cl (d + 9) 150 58 [.ref 0, .int x1, .int x2, .int x3, .int x4, .int x5, .int x6] [.int rq13] (cd f14 A15 R16 wr) _
            exact pe_iret (by decide +kernel) rfl rfl ⟨f14, A15, R16, rq13, rfl, hIq13, (fun k n529 n530 n882 => ((hGq13 k n882)).trans ((hGq7 k n529 n530))), (fun k n39 n40 n41 n66 => ((hFq13 k n66)).trans ((hFq7 k n39 n40 n41))), (fun k n0 n2 => ((hHq13 k n2)).trans ((hHq7 k n0))), ⟨trivial, trivial⟩⟩
        · skip
          refine pe_iconstv (n := (-1)) (v := (-1)) (by decide +kernel) (by decide +kernel) ?_
          exact pe_iret (by decide +kernel) rfl rfl ⟨f, A, R, (-1), rfl, hI, (fun k n529 n530 n882 => rfl), (fun k n39 n40 n41 n66 => rfl), (fun k n0 n2 => rfl), ⟨trivial, trivial⟩⟩
set_option maxRecDepth 100000 in
set_option maxHeartbeats 8000000 in
theorem CM_153 {X : pm_X} {d : Nat} {wr : pm_W} {f : Nat → Int32} {A : Nat → List Int32} {R : Nat → Value} {x1 x2 x3 x4 x5 x6 : Int32} (hX : XO X) (hI : CI f A R) : pmE pg X pg_tyl pg_cl (d + 6) 153 0 (pm_ent (pm_max pg 153) [.ref 0, .int x1, .int x2, .int x3, .int x4, .int x5, .int x6]) [] (cd f A R wr) (fun q => ∃ (f' : Nat → Int32) (A' : Nat → List Int32) (R' : Nat → Value) (r : Int32), q = (some (.int r), cd f' A' R' wr, 0, 0) ∧ CI f' A' R' ∧ (∀ k : Nat, k ≠ 529 → k ≠ 530 → f' k = f k) ∧ (∀ k : Nat, k ≠ 39 → k ≠ 40 → k ≠ 41 → k ≠ 86 → A' k = A k) ∧ (∀ k : Nat, k ≠ 0 → R' k = R k) ∧ ((r = (-1) ∧ True) ∨ (r = 0 ∧ (0 ≤ x3.toInt ∧ x3.toInt ≤ 30) ∧ (2 ≤ x4.toInt ∧ x4.toInt ≤ 6) ∧ (0 ≤ x5.toInt) ∧ (1 ≤ x6.toInt ∧ x6.toInt ≤ 99)) ∨ (r = 1 ∧ (0 ≤ x3.toInt ∧ x3.toInt ≤ 30) ∧ (2 ≤ x4.toInt ∧ x4.toInt ≤ 6) ∧ (0 ≤ x5.toInt) ∧ (1 ≤ x6.toInt ∧ x6.toInt ≤ 99)))) := by
  show pmE pg X pg_tyl pg_cl (d + 6) 153 0 [.ref 0, .int x1, .int x2, .int x3, .int x4, .int x5, .int x6] [] (cd f A R wr) _
  refine pe_iload (j := 4) (by decide +kernel) rfl ?_
  refine pe_iconstv (n := 2) (v := 2) (by decide +kernel) (by decide +kernel) ?_
  have lw2 := zi_lo x4
  have uw2 := zi_hi x4
  refine pz_icmp_lt (off := 23) (t := 26) (by decide +kernel) (by decide) rfl rfl kz_2 (fun h1 => ?_) (fun h1 => ?_)
  · skip
    refine pe_iconstv (n := (-1)) (v := (-1)) (by decide +kernel) (by decide +kernel) ?_
    exact pe_iret (by decide +kernel) rfl rfl ⟨f, A, R, (-1), rfl, hI, (fun k n529 n530 => rfl), (fun k n39 n40 n41 n86 => rfl), (fun k n0 => rfl), Or.inl ⟨rfl, trivial⟩⟩
  · skip
    refine pe_iload (j := 4) (by decide +kernel) rfl ?_
    refine pe_bipushv (n := 6) (v := 6) (by decide +kernel) (by decide +kernel) ?_
    refine pz_icmp_gt (off := 16) (t := 26) (by decide +kernel) (by decide) rfl rfl kz_6 (fun h3 => ?_) (fun h3 => ?_)
    · skip
      refine pe_iconstv (n := (-1)) (v := (-1)) (by decide +kernel) (by decide +kernel) ?_
      exact pe_iret (by decide +kernel) rfl rfl ⟨f, A, R, (-1), rfl, hI, (fun k n529 n530 => rfl), (fun k n39 n40 n41 n86 => rfl), (fun k n0 => rfl), Or.inl ⟨rfl, trivial⟩⟩
    · skip
      refine pe_iload (j := 6) (by decide +kernel) rfl ?_
      refine pe_iconstv (n := 1) (v := 1) (by decide +kernel) (by decide +kernel) ?_
      have lw5 := zi_lo x6
      have uw5 := zi_hi x6
      refine pz_icmp_lt (off := 10) (t := 26) (by decide +kernel) (by decide) rfl rfl kz_1 (fun h4 => ?_) (fun h4 => ?_)
      · skip
        refine pe_iconstv (n := (-1)) (v := (-1)) (by decide +kernel) (by decide +kernel) ?_
        exact pe_iret (by decide +kernel) rfl rfl ⟨f, A, R, (-1), rfl, hI, (fun k n529 n530 => rfl), (fun k n39 n40 n41 n86 => rfl), (fun k n0 => rfl), Or.inl ⟨rfl, trivial⟩⟩
      · skip
        refine pe_iload (j := 6) (by decide +kernel) rfl ?_
        refine pe_bipushv (n := 99) (v := 99) (by decide +kernel) (by decide +kernel) ?_
        refine pz_icmp_le (off := 5) (t := 28) (by decide +kernel) (by decide) rfl rfl kz_99 (fun h6 => ?_) (fun h6 => ?_)
        · skip
          refine pe_aload_n (j := 0) (by decide +kernel) rfl ?_
          refine pe_iload_n (j := 1) (by decide +kernel) rfl ?_
          refine pe_iload_n (j := 2) (by decide +kernel) rfl ?_
          refine pe_iload_n (j := 3) (by decide +kernel) rfl ?_
          refine pz_callV (j := 201) (mj := 98) (by decide +kernel) (cll_V (args := [.int x3, .int x2, .int x1]) (n := 3) (by decide +kernel) rfl rfl cd_o0 (by decide +kernel) (Nat.le_of_ble_eq_true rfl) (Nat.le_of_ble_eq_true rfl)) (CM_98 hX hI) (fun q7a q7b q7c q7d hqq7 => ?_)
          obtain ⟨f8, A9, R10, rq7, eq7, hIq7, hGq7, hFq7, hHq7, kq7⟩ := hqq7
          cases eq7
          refine ⟨rfl, rfl, ?_⟩
          rcases kq7 with kq7 | kq7
          · skip
            obtain ⟨erq7, kq7⟩ := kq7
            subst erq7
            show pmE pg X pg_tyl pg_cl (d + 6) 153 35 [.ref 0, .int x1, .int x2, .int x3, .int x4, .int x5, .int x6] [.int 0] (cd f8 A9 R10 wr) _
            refine pz_if_eq (off := 14) (t := 49) (by decide +kernel) (by decide) rfl kz_0 (fun h11 => ?_) (fun h11 => by omega)
            refine pe_iconstv (n := (-1)) (v := (-1)) (by decide +kernel) (by decide +kernel) ?_
            exact pe_iret (by decide +kernel) rfl rfl ⟨f8, A9, R10, (-1), rfl, hIq7, (fun k n529 n530 => (hGq7 k n529 n530)), (fun k n39 n40 n41 n86 => (hFq7 k n39 n40 n41)), (fun k n0 => (hHq7 k n0)), Or.inl ⟨rfl, trivial⟩⟩
          · skip
            obtain ⟨erq7, kq7⟩ := kq7
            subst erq7
            obtain ⟨⟨v32, hv32, hR0q7⟩, kq7⟩ := kq7
            have bv32 := VV_b hv32
            show pmE pg X pg_tyl pg_cl (d + 6) 153 35 [.ref 0, .int x1, .int x2, .int x3, .int x4, .int x5, .int x6] [.int 1] (cd f8 A9 R10 wr) _
            refine pz_if_eq (off := 14) (t := 49) (by decide +kernel) (by decide) rfl kz_1 (fun h12 => by omega) (fun h12 => ?_)
            refine pe_aload_n (j := 0) (by decide +kernel) rfl ?_
            refine pe_iload (j := 4) (by decide +kernel) rfl ?_
            refine pe_iload (j := 5) (by decide +kernel) rfl ?_
            refine pz_callV (j := 310) (mj := 154) (by decide +kernel) (cll_V (args := [.int x5, .int x4]) (n := 2) (by decide +kernel) rfl rfl cd_o0 (by decide +kernel) (Nat.le_of_ble_eq_true rfl) (Nat.le_of_ble_eq_true rfl)) (CM_154 hX hIq7 hv32 (hR0q7) (by omega)) (fun q13a q13b q13c q13d hqq13 => ?_)
            obtain ⟨A14, rq13, eq13, hIq13, hFq13, kq13⟩ := hqq13
            cases eq13
            refine ⟨rfl, rfl, ?_⟩
            rcases kq13 with kq13 | kq13
            · skip
              obtain ⟨erq13, kq13⟩ := kq13
              subst erq13
              show pmE pg X pg_tyl pg_cl (d + 6) 153 46 [.ref 0, .int x1, .int x2, .int x3, .int x4, .int x5, .int x6] [.int 0] (cd f8 A14 R10 wr) _
              refine pz_if_ne (off := 5) (t := 51) (by decide +kernel) (by decide) rfl kz_0 (fun h15 => by omega) (fun h15 => ?_)
              refine pe_iconstv (n := (-1)) (v := (-1)) (by decide +kernel) (by decide +kernel) ?_
              exact pe_iret (by decide +kernel) rfl rfl ⟨f8, A14, R10, (-1), rfl, hIq13, (fun k n529 n530 => (hGq7 k n529 n530)), (fun k n39 n40 n41 n86 => ((hFq13 k n86)).trans ((hFq7 k n39 n40 n41))), (fun k n0 => (hHq7 k n0)), Or.inl ⟨rfl, trivial⟩⟩
            · skip
              obtain ⟨erq13, kq13⟩ := kq13
              subst erq13
              show pmE pg X pg_tyl pg_cl (d + 6) 153 46 [.ref 0, .int x1, .int x2, .int x3, .int x4, .int x5, .int x6] [.int 1] (cd f8 A14 R10 wr) _
              refine pz_if_ne (off := 5) (t := 51) (by decide +kernel) (by decide) rfl kz_1 (fun h16 => ?_) (fun h16 => by omega)
              refine pe_aload_n (j := 0) (by decide +kernel) rfl ?_
              refine pe_get (j := 34) (ci := 11) (n := 4) (by decide +kernel) (by decide +kernel) cd_o0 rfl ?_
              refine pe_aload_n (j := 0) (by decide +kernel) rfl ?_
              refine pe_get (j := 73) (ci := 11) (n := 10) (by decide +kernel) (by decide +kernel) cd_o0 rfl ?_
              refine pe_iload (j := 4) (by decide +kernel) rfl ?_
              refine pe_iload (j := 6) (by decide +kernel) rfl ?_
              refine pz_callV (j := 313) (mj := 80) (by decide +kernel) (cll_V (args := [.int x6, .int x4, .ref 86]) (n := 3) (by decide +kernel) rfl rfl cd_o33 (by decide +kernel) (Nat.le_of_ble_eq_true rfl) (Nat.le_of_ble_eq_true rfl)) (CM_80_1 hX hIq13 hv32 (hR0q7) (by omega)) (fun q17a q17b q17c q17d hqq17 => ?_)
              obtain ⟨rq17, eq17, kq17⟩ := hqq17
              cases eq17
              refine ⟨rfl, rfl, ?_⟩
              rcases kq17 with kq17 | kq17
              · skip
                obtain ⟨erq17, kq17⟩ := kq17
                subst erq17
                show pmE pg X pg_tyl pg_cl (d + 6) 153 66 [.ref 0, .int x1, .int x2, .int x3, .int x4, .int x5, .int x6] [.int 0] (cd f8 A14 R10 wr) _
                refine pz_if_eq (off := 7) (t := 73) (by decide +kernel) (by decide) rfl kz_0 (fun h18 => ?_) (fun h18 => by omega)
                refine pe_iconstv (n := 0) (v := 0) (by decide +kernel) (by decide +kernel) ?_
                exact pe_iret (by decide +kernel) rfl rfl ⟨f8, A14, R10, 0, rfl, hIq13, (fun k n529 n530 => (hGq7 k n529 n530)), (fun k n39 n40 n41 n86 => ((hFq13 k n86)).trans ((hFq7 k n39 n40 n41))), (fun k n0 => (hHq7 k n0)), Or.inr (Or.inl ⟨rfl, (by omega)⟩)⟩
              · skip
                obtain ⟨erq17, kq17⟩ := kq17
                subst erq17
                obtain ⟨hq19, kq17⟩ := kq17
                show pmE pg X pg_tyl pg_cl (d + 6) 153 66 [.ref 0, .int x1, .int x2, .int x3, .int x4, .int x5, .int x6] [.int 1] (cd f8 A14 R10 wr) _
                refine pz_if_eq (off := 7) (t := 73) (by decide +kernel) (by decide) rfl kz_1 (fun h20 => by omega) (fun h20 => ?_)
                refine pe_iconstv (n := 1) (v := 1) (by decide +kernel) (by decide +kernel) ?_
                refine pe_goto (off := 4) (t := 74) (by decide +kernel) (by decide) rfl ?_
                exact pe_iret (by decide +kernel) rfl rfl ⟨f8, A14, R10, 1, rfl, hIq13, (fun k n529 n530 => (hGq7 k n529 n530)), (fun k n39 n40 n41 n86 => ((hFq13 k n86)).trans ((hFq7 k n39 n40 n41))), (fun k n0 => (hHq7 k n0)), Or.inr (Or.inr (⟨rfl, (by omega)⟩))⟩
        · skip
          refine pe_iconstv (n := (-1)) (v := (-1)) (by decide +kernel) (by decide +kernel) ?_
          exact pe_iret (by decide +kernel) rfl rfl ⟨f, A, R, (-1), rfl, hI, (fun k n529 n530 => rfl), (fun k n39 n40 n41 n86 => rfl), (fun k n0 => rfl), Or.inl ⟨rfl, trivial⟩⟩
set_option maxRecDepth 100000 in
set_option maxHeartbeats 8000000 in
theorem CM_155 {X : pm_X} {d : Nat} {wr : pm_W} {f : Nat → Int32} {A : Nat → List Int32} {R : Nat → Value} {x1 x2 x3 x4 x5 : Int32} (hX : XO X) (hI : CI f A R) : pmE pg X pg_tyl pg_cl (d + 11) 155 0 (pm_ent (pm_max pg 155) [.ref 0, .int x1, .int x2, .int x3, .int x4, .int x5]) [] (cd f A R wr) (fun q => ∃ (f' : Nat → Int32) (A' : Nat → List Int32) (R' : Nat → Value) (r : Int32), q = (some (.int r), cd f' A' R' wr, 0, 0) ∧ CI f' A' R' ∧ (∀ k : Nat, k ≠ 529 → k ≠ 530 → k ≠ 881 → k ≠ 882 → k ≠ 886 → k ≠ 887 → k ≠ 1328 → k ≠ 1329 → f' k = f k) ∧ (∀ k : Nat, k ≠ 39 → k ≠ 40 → k ≠ 41 → k ≠ 65 → k ≠ 66 → k ≠ 67 → k ≠ 84 → A' k = A k) ∧ (∀ k : Nat, k ≠ 0 → k ≠ 2 → k ≠ 5 → R' k = R k) ∧ ((True ∧ True))) := by
  show pmE pg X pg_tyl pg_cl (d + 11) 155 0 [.ref 0, .int x1, .int x2, .int x3, .int x4, .int x5, pm_dead, pm_dead] [] (cd f A R wr) _
  refine pe_iload (j := 4) (by decide +kernel) rfl ?_
  refine pi_S (j := 317) (mj := 132) (by decide +kernel) (by decide +kernel) rfl ?_
  show pmE pg X pg_tyl pg_cl (d + 10) 132 0 [.int x4] [] (cd f A R wr) _
  refine pe_iload_n (j := 0) (by decide +kernel) rfl ?_
  have lw2 := zi_lo x4
  have uw2 := zi_hi x4
  refine pz_if_eq (off := 13) (t := 14) (by decide +kernel) (by decide) rfl rfl (fun h1 => ?_) (fun h1 => ?_)
  · skip
    refine pe_iconstv (n := 1) (v := 1) (by decide +kernel) (by decide +kernel) ?_
    refine pe_goto (off := 4) (t := 19) (by decide +kernel) (by decide) rfl ?_
    refine pe_iret (by decide +kernel) rfl rfl ⟨rfl, rfl, ?_⟩
    show pmE pg X pg_tyl pg_cl (d + 11) 155 5 [.ref 0, .int x1, .int x2, .int x3, .int x4, .int x5, pm_dead, pm_dead] [.int 1] (cd f A R wr) _
    refine pz_if_eq (off := 13) (t := 18) (by decide +kernel) (by decide) rfl kz_1 (fun h3 => by omega) (fun h3 => ?_)
    refine pe_aload_n (j := 0) (by decide +kernel) rfl ?_
    refine pe_iload_n (j := 1) (by decide +kernel) rfl ?_
    refine pe_iload_n (j := 2) (by decide +kernel) rfl ?_
    refine pe_iload_n (j := 3) (by decide +kernel) rfl ?_
    refine pz_callV (j := 201) (mj := 98) (by decide +kernel) (cll_V (args := [.int x3, .int x2, .int x1]) (n := 3) (by decide +kernel) rfl rfl cd_o0 (by decide +kernel) (Nat.le_of_ble_eq_true rfl) (Nat.le_of_ble_eq_true rfl)) (CM_98 hX hI) (fun q4a q4b q4c q4d hqq4 => ?_)
    obtain ⟨f5, A6, R7, rq4, eq4, hIq4, hGq4, hFq4, hHq4, kq4⟩ := hqq4
    cases eq4
    refine ⟨rfl, rfl, ?_⟩
    rcases kq4 with kq4 | kq4
    · skip
      obtain ⟨erq4, kq4⟩ := kq4
      subst erq4
      show pmE pg X pg_tyl pg_cl (d + 11) 155 15 [.ref 0, .int x1, .int x2, .int x3, .int x4, .int x5, pm_dead, pm_dead] [.int 0] (cd f5 A6 R7 wr) _
      refine pz_if_ne (off := 5) (t := 20) (by decide +kernel) (by decide) rfl kz_0 (fun h8 => by omega) (fun h8 => ?_)
      refine pe_iconstv (n := (-1)) (v := (-1)) (by decide +kernel) (by decide +kernel) ?_
      exact pe_iret (by decide +kernel) rfl rfl ⟨f5, A6, R7, (-1), rfl, hIq4, (fun k n529 n530 n881 n882 n886 n887 n1328 n1329 => (hGq4 k n529 n530)), (fun k n39 n40 n41 n65 n66 n67 n84 => (hFq4 k n39 n40 n41)), (fun k n0 n2 n5 => (hHq4 k n0)), ⟨trivial, trivial⟩⟩
    · skip
      obtain ⟨erq4, kq4⟩ := kq4
      subst erq4
      obtain ⟨⟨v12, hv12, hR0q4⟩, kq4⟩ := kq4
      have bv12 := VV_b hv12
      show pmE pg X pg_tyl pg_cl (d + 11) 155 15 [.ref 0, .int x1, .int x2, .int x3, .int x4, .int x5, pm_dead, pm_dead] [.int 1] (cd f5 A6 R7 wr) _
      refine pz_if_ne (off := 5) (t := 20) (by decide +kernel) (by decide) rfl kz_1 (fun h9 => ?_) (fun h9 => by omega)
      refine pe_iload (j := 5) (by decide +kernel) rfl ?_
      refine pe_bipushv (n := 10) (v := 10) (by decide +kernel) (by decide +kernel) ?_
      refine pw_sub (by decide +kernel) (fun z10 => ?_)
      refine pe_istore (j := 6) (ls' := [.ref 0, .int x1, .int x2, .int x3, .int x4, .int x5, .int z10, pm_dead]) (by decide +kernel) (Nat.le_of_ble_eq_true rfl) rfl ?_
      refine pe_iload (j := 5) (by decide +kernel) rfl ?_
      refine pe_bipushv (n := 10) (v := 10) (by decide +kernel) (by decide +kernel) ?_
      have lw12 := zi_lo x5
      have uw12 := zi_hi x5
      refine pz_icmp_lt (off := 22) (t := 53) (by decide +kernel) (by decide) rfl rfl kz_10 (fun h11 => ?_) (fun h11 => ?_)
      · skip
        refine pe_iconstv (n := 0) (v := 0) (by decide +kernel) (by decide +kernel) ?_
        refine pe_istore (j := 7) (ls' := [.ref 0, .int x1, .int x2, .int x3, .int x4, .int x5, .int z10, .int 0]) (by decide +kernel) (Nat.le_of_ble_eq_true rfl) rfl ?_
        refine pe_iload (j := 5) (by decide +kernel) rfl ?_
        refine pz_if_eq (off := 16) (t := 74) (by decide +kernel) (by decide) rfl rfl (fun h13 => ?_) (fun h13 => ?_)
        · skip
          refine pe_aload_n (j := 0) (by decide +kernel) rfl ?_
          refine pe_get (j := 62) (ci := 11) (n := 8) (by decide +kernel) (by decide +kernel) cd_o0 rfl ?_
          refine pe_aload_n (j := 0) (by decide +kernel) rfl ?_
          refine pe_get (j := 34) (ci := 11) (n := 4) (by decide +kernel) (by decide +kernel) cd_o0 rfl ?_
          refine pe_aload_n (j := 0) (by decide +kernel) rfl ?_
          refine pe_get (j := 48) (ci := 11) (n := 6) (by decide +kernel) (by decide +kernel) cd_o0 rfl ?_
          refine pe_iload (j := 4) (by decide +kernel) rfl ?_
          refine pz_callV (j := 320) (mj := 156) (by decide +kernel) (cll_V (args := [.int x4, .ref 55, .ref 33]) (n := 3) (by decide +kernel) rfl rfl cd_o83 (by decide +kernel) (Nat.le_of_ble_eq_true rfl) (Nat.le_of_ble_eq_true rfl)) (CM_156 hX hIq4 hv12 (hR0q4)) (fun q14a q14b q14c q14d hqq14 => ?_)
          obtain ⟨f15, A16, R17, eq14, hIq14, hGq14, hFq14, hHq14, kq14⟩ := hqq14
          cases eq14
          refine ⟨rfl, rfl, ?_⟩
          show pmE pg X pg_tyl pg_cl (d + 11) 155 91 [.ref 0, .int x1, .int x2, .int x3, .int x4, .int x5, .int z10, .int 0] [] (cd f15 A16 R17 wr) _
          refine pe_iload (j := 5) (by decide +kernel) rfl ?_
          refine pz_if_ne (off := 11) (t := 104) (by decide +kernel) (by decide) rfl rfl (fun h18 => by omega) (fun h18 => ?_)
          refine pe_aload_n (j := 0) (by decide +kernel) rfl ?_
          refine pe_get (j := 62) (ci := 11) (n := 8) (by decide +kernel) (by decide +kernel) cd_o0 rfl ?_
          refine pe_get (j := 324) (ci := 3) (n := 0) (by decide +kernel) (by decide +kernel) cd_o83 rfl ?_
          exact pe_iret (by decide +kernel) rfl rfl ⟨f15, A16, R17, (f15 1328), rfl, hIq14, (fun k n529 n530 n881 n882 n886 n887 n1328 n1329 => ((hGq14 k n530 n881 n882 n886 n887 n1328 n1329)).trans ((hGq4 k n529 n530))), (fun k n39 n40 n41 n65 n66 n67 n84 => ((hFq14 k n39 n40 n65 n66 n67 n84)).trans ((hFq4 k n39 n40 n41))), (fun k n0 n2 n5 => ((hHq14 k n2 n5)).trans ((hHq4 k n0))), ⟨trivial, trivial⟩⟩
        · skip
          refine pe_iload (j := 5) (by decide +kernel) rfl ?_
          refine pe_iconstv (n := 1) (v := 1) (by decide +kernel) (by decide +kernel) ?_
          refine pz_icmp_eq (off := 10) (t := 74) (by decide +kernel) (by decide) rfl rfl kz_1 (fun h19 => ?_) (fun h19 => ?_)
          · skip
            refine pe_aload_n (j := 0) (by decide +kernel) rfl ?_
            refine pe_get (j := 62) (ci := 11) (n := 8) (by decide +kernel) (by decide +kernel) cd_o0 rfl ?_
            refine pe_aload_n (j := 0) (by decide +kernel) rfl ?_
            refine pe_get (j := 34) (ci := 11) (n := 4) (by decide +kernel) (by decide +kernel) cd_o0 rfl ?_
            refine pe_aload_n (j := 0) (by decide +kernel) rfl ?_
            refine pe_get (j := 48) (ci := 11) (n := 6) (by decide +kernel) (by decide +kernel) cd_o0 rfl ?_
            refine pe_iload (j := 4) (by decide +kernel) rfl ?_
            refine pz_callV (j := 320) (mj := 156) (by decide +kernel) (cll_V (args := [.int x4, .ref 55, .ref 33]) (n := 3) (by decide +kernel) rfl rfl cd_o83 (by decide +kernel) (Nat.le_of_ble_eq_true rfl) (Nat.le_of_ble_eq_true rfl)) (CM_156 hX hIq4 hv12 (hR0q4)) (fun q20a q20b q20c q20d hqq20 => ?_)
            obtain ⟨f21, A22, R23, eq20, hIq20, hGq20, hFq20, hHq20, kq20⟩ := hqq20
            cases eq20
            refine ⟨rfl, rfl, ?_⟩
            show pmE pg X pg_tyl pg_cl (d + 11) 155 91 [.ref 0, .int x1, .int x2, .int x3, .int x4, .int x5, .int z10, .int 0] [] (cd f21 A22 R23 wr) _
            refine pe_iload (j := 5) (by decide +kernel) rfl ?_
            refine pz_if_ne (off := 11) (t := 104) (by decide +kernel) (by decide) rfl rfl (fun h24 => ?_) (fun h24 => by omega)
            refine pe_iload (j := 5) (by decide +kernel) rfl ?_
            refine pe_iconstv (n := 1) (v := 1) (by decide +kernel) (by decide +kernel) ?_
            refine pz_icmp_ne (off := 13) (t := 120) (by decide +kernel) (by decide) rfl rfl kz_1 (fun h25 => by omega) (fun h25 => ?_)
            refine pe_aload_n (j := 0) (by decide +kernel) rfl ?_
            refine pe_get (j := 62) (ci := 11) (n := 8) (by decide +kernel) (by decide +kernel) cd_o0 rfl ?_
            refine pe_get (j := 327) (ci := 3) (n := 1) (by decide +kernel) (by decide +kernel) cd_o83 rfl ?_
            refine pe_goto (off := 13) (t := 130) (by decide +kernel) (by decide) rfl ?_
            exact pe_iret (by decide +kernel) rfl rfl ⟨f21, A22, R23, (f21 1329), rfl, hIq20, (fun k n529 n530 n881 n882 n886 n887 n1328 n1329 => ((hGq20 k n530 n881 n882 n886 n887 n1328 n1329)).trans ((hGq4 k n529 n530))), (fun k n39 n40 n41 n65 n66 n67 n84 => ((hFq20 k n39 n40 n65 n66 n67 n84)).trans ((hFq4 k n39 n40 n41))), (fun k n0 n2 n5 => ((hHq20 k n2 n5)).trans ((hHq4 k n0))), ⟨trivial, trivial⟩⟩
          · skip
            refine pe_iload (j := 7) (by decide +kernel) rfl ?_
            refine pz_if_ne (off := 5) (t := 74) (by decide +kernel) (by decide) rfl kz_0 (fun h26 => by omega) (fun h26 => ?_)
            refine pe_iconstv (n := (-1)) (v := (-1)) (by decide +kernel) (by decide +kernel) ?_
            exact pe_iret (by decide +kernel) rfl rfl ⟨f5, A6, R7, (-1), rfl, hIq4, (fun k n529 n530 n881 n882 n886 n887 n1328 n1329 => (hGq4 k n529 n530)), (fun k n39 n40 n41 n65 n66 n67 n84 => (hFq4 k n39 n40 n41)), (fun k n0 n2 n5 => (hHq4 k n0)), ⟨trivial, trivial⟩⟩
      · skip
        refine pe_aload_n (j := 0) (by decide +kernel) rfl ?_
        refine pe_get (j := 34) (ci := 11) (n := 4) (by decide +kernel) (by decide +kernel) cd_o0 rfl ?_
        refine pe_get (j := 287) (ci := 7) (n := 0) (by decide +kernel) (by decide +kernel) cd_o33 rfl ?_
        refine pe_topV (v := .ref v12) (hR0q4) ?_
        refine pe_iload (j := 6) (by decide +kernel) rfl ?_
        refine pi_V (j := 126) (mj := 61) (by decide +kernel) (cll_V (args := [.int z10]) (n := 1) (by decide +kernel) rfl rfl (cv_o hv12) (by decide +kernel) (Nat.le_of_ble_eq_true rfl) (Nat.le_of_ble_eq_true rfl)) ?_
        show pmE pg X pg_tyl pg_cl (d + 10) 61 0 [.ref v12, .int z10] [] (cd f5 A6 R7 wr) _
        refine pe_iload_n (j := 1) (by decide +kernel) rfl ?_
        have lw28 := zi_lo z10
        have uw28 := zi_hi z10
        refine pz_if_lt (off := 15) (t := 16) (by decide +kernel) (by decide) rfl rfl (fun h27 => ?_) (fun h27 => ?_)
        · skip
          refine pe_iconstv (n := 0) (v := 0) (by decide +kernel) (by decide +kernel) ?_
          refine pe_iret (by decide +kernel) rfl rfl ⟨rfl, rfl, ?_⟩
          show pmE pg X pg_tyl pg_cl (d + 11) 155 46 [.ref 0, .int x1, .int x2, .int x3, .int x4, .int x5, .int z10, pm_dead] [.int 0] (cd f5 A6 R7 wr) _
          refine pz_if_eq (off := 7) (t := 53) (by decide +kernel) (by decide) rfl kz_0 (fun h29 => ?_) (fun h29 => by omega)
          refine pe_iconstv (n := 0) (v := 0) (by decide +kernel) (by decide +kernel) ?_
          refine pe_istore (j := 7) (ls' := [.ref 0, .int x1, .int x2, .int x3, .int x4, .int x5, .int z10, .int 0]) (by decide +kernel) (Nat.le_of_ble_eq_true rfl) rfl ?_
          refine pe_iload (j := 5) (by decide +kernel) rfl ?_
          refine pz_if_eq (off := 16) (t := 74) (by decide +kernel) (by decide) rfl rfl (fun h30 => by omega) (fun h30 => ?_)
          refine pe_iload (j := 5) (by decide +kernel) rfl ?_
          refine pe_iconstv (n := 1) (v := 1) (by decide +kernel) (by decide +kernel) ?_
          refine pz_icmp_eq (off := 10) (t := 74) (by decide +kernel) (by decide) rfl rfl kz_1 (fun h31 => by omega) (fun h31 => ?_)
          refine pe_iload (j := 7) (by decide +kernel) rfl ?_
          refine pz_if_ne (off := 5) (t := 74) (by decide +kernel) (by decide) rfl kz_0 (fun h32 => by omega) (fun h32 => ?_)
          refine pe_iconstv (n := (-1)) (v := (-1)) (by decide +kernel) (by decide +kernel) ?_
          exact pe_iret (by decide +kernel) rfl rfl ⟨f5, A6, R7, (-1), rfl, hIq4, (fun k n529 n530 n881 n882 n886 n887 n1328 n1329 => (hGq4 k n529 n530)), (fun k n39 n40 n41 n65 n66 n67 n84 => (hFq4 k n39 n40 n41)), (fun k n0 n2 n5 => (hHq4 k n0)), ⟨trivial, trivial⟩⟩
        · skip
          refine pe_iload_n (j := 1) (by decide +kernel) rfl ?_
          refine pe_aload_n (j := 0) (by decide +kernel) rfl ?_
          refine pe_get (j := 9) (ci := 9) (n := 0) (by decide +kernel) (by decide +kernel) (cv_o hv12) rfl ?_
          have hr_f_16v12 := cv_people hv12 hI
          refine pe_top (v := (f (16 * v12))) ((hGq4 (16 * v12) (by omega) (by omega))) ?_
          refine pz_icmp_ge (off := 7) (t := 16) (by decide +kernel) (by decide) rfl rfl rfl (fun h33 => ?_) (fun h33 => ?_)
          · skip
            refine pe_iconstv (n := 0) (v := 0) (by decide +kernel) (by decide +kernel) ?_
            refine pe_iret (by decide +kernel) rfl rfl ⟨rfl, rfl, ?_⟩
            show pmE pg X pg_tyl pg_cl (d + 11) 155 46 [.ref 0, .int x1, .int x2, .int x3, .int x4, .int x5, .int z10, pm_dead] [.int 0] (cd f5 A6 R7 wr) _
            refine pz_if_eq (off := 7) (t := 53) (by decide +kernel) (by decide) rfl kz_0 (fun h34 => ?_) (fun h34 => by omega)
            refine pe_iconstv (n := 0) (v := 0) (by decide +kernel) (by decide +kernel) ?_
            refine pe_istore (j := 7) (ls' := [.ref 0, .int x1, .int x2, .int x3, .int x4, .int x5, .int z10, .int 0]) (by decide +kernel) (Nat.le_of_ble_eq_true rfl) rfl ?_
            refine pe_iload (j := 5) (by decide +kernel) rfl ?_
            refine pz_if_eq (off := 16) (t := 74) (by decide +kernel) (by decide) rfl rfl (fun h35 => by omega) (fun h35 => ?_)
            refine pe_iload (j := 5) (by decide +kernel) rfl ?_
            refine pe_iconstv (n := 1) (v := 1) (by decide +kernel) (by decide +kernel) ?_
            refine pz_icmp_eq (off := 10) (t := 74) (by decide +kernel) (by decide) rfl rfl kz_1 (fun h36 => by omega) (fun h36 => ?_)
            refine pe_iload (j := 7) (by decide +kernel) rfl ?_
            refine pz_if_ne (off := 5) (t := 74) (by decide +kernel) (by decide) rfl kz_0 (fun h37 => by omega) (fun h37 => ?_)
            refine pe_iconstv (n := (-1)) (v := (-1)) (by decide +kernel) (by decide +kernel) ?_
            exact pe_iret (by decide +kernel) rfl rfl ⟨f5, A6, R7, (-1), rfl, hIq4, (fun k n529 n530 n881 n882 n886 n887 n1328 n1329 => (hGq4 k n529 n530)), (fun k n39 n40 n41 n65 n66 n67 n84 => (hFq4 k n39 n40 n41)), (fun k n0 n2 n5 => (hHq4 k n0)), ⟨trivial, trivial⟩⟩
          · skip
            refine pe_iconstv (n := 1) (v := 1) (by decide +kernel) (by decide +kernel) ?_
            refine pe_goto (off := 4) (t := 17) (by decide +kernel) (by decide) rfl ?_
            refine pe_iret (by decide +kernel) rfl rfl ⟨rfl, rfl, ?_⟩
            show pmE pg X pg_tyl pg_cl (d + 11) 155 46 [.ref 0, .int x1, .int x2, .int x3, .int x4, .int x5, .int z10, pm_dead] [.int 1] (cd f5 A6 R7 wr) _
            refine pz_if_eq (off := 7) (t := 53) (by decide +kernel) (by decide) rfl kz_1 (fun h38 => by omega) (fun h38 => ?_)
            refine pe_iconstv (n := 1) (v := 1) (by decide +kernel) (by decide +kernel) ?_
            refine pe_goto (off := 4) (t := 54) (by decide +kernel) (by decide) rfl ?_
            refine pe_istore (j := 7) (ls' := [.ref 0, .int x1, .int x2, .int x3, .int x4, .int x5, .int z10, .int 1]) (by decide +kernel) (Nat.le_of_ble_eq_true rfl) rfl ?_
            refine pe_iload (j := 5) (by decide +kernel) rfl ?_
            refine pz_if_eq (off := 16) (t := 74) (by decide +kernel) (by decide) rfl rfl (fun h39 => by omega) (fun h39 => ?_)
            refine pe_iload (j := 5) (by decide +kernel) rfl ?_
            refine pe_iconstv (n := 1) (v := 1) (by decide +kernel) (by decide +kernel) ?_
            refine pz_icmp_eq (off := 10) (t := 74) (by decide +kernel) (by decide) rfl rfl kz_1 (fun h40 => by omega) (fun h40 => ?_)
            refine pe_iload (j := 7) (by decide +kernel) rfl ?_
            refine pz_if_ne (off := 5) (t := 74) (by decide +kernel) (by decide) rfl kz_1 (fun h41 => ?_) (fun h41 => by omega)
            refine pe_aload_n (j := 0) (by decide +kernel) rfl ?_
            refine pe_get (j := 62) (ci := 11) (n := 8) (by decide +kernel) (by decide +kernel) cd_o0 rfl ?_
            refine pe_aload_n (j := 0) (by decide +kernel) rfl ?_
            refine pe_get (j := 34) (ci := 11) (n := 4) (by decide +kernel) (by decide +kernel) cd_o0 rfl ?_
            refine pe_aload_n (j := 0) (by decide +kernel) rfl ?_
            refine pe_get (j := 48) (ci := 11) (n := 6) (by decide +kernel) (by decide +kernel) cd_o0 rfl ?_
            refine pe_iload (j := 4) (by decide +kernel) rfl ?_
            refine pz_callV (j := 320) (mj := 156) (by decide +kernel) (cll_V (args := [.int x4, .ref 55, .ref 33]) (n := 3) (by decide +kernel) rfl rfl cd_o83 (by decide +kernel) (Nat.le_of_ble_eq_true rfl) (Nat.le_of_ble_eq_true rfl)) (CM_156 hX hIq4 hv12 (hR0q4)) (fun q42a q42b q42c q42d hqq42 => ?_)
            obtain ⟨f43, A44, R45, eq42, hIq42, hGq42, hFq42, hHq42, kq42⟩ := hqq42
            cases eq42
            refine ⟨rfl, rfl, ?_⟩
            show pmE pg X pg_tyl pg_cl (d + 11) 155 91 [.ref 0, .int x1, .int x2, .int x3, .int x4, .int x5, .int z10, .int 1] [] (cd f43 A44 R45 wr) _
            refine pe_iload (j := 5) (by decide +kernel) rfl ?_
            refine pz_if_ne (off := 11) (t := 104) (by decide +kernel) (by decide) rfl rfl (fun h46 => ?_) (fun h46 => by omega)
            refine pe_iload (j := 5) (by decide +kernel) rfl ?_
            refine pe_iconstv (n := 1) (v := 1) (by decide +kernel) (by decide +kernel) ?_
            refine pz_icmp_ne (off := 13) (t := 120) (by decide +kernel) (by decide) rfl rfl kz_1 (fun h47 => ?_) (fun h47 => by omega)
            refine pe_aload_n (j := 0) (by decide +kernel) rfl ?_
            refine pe_get (j := 62) (ci := 11) (n := 8) (by decide +kernel) (by decide +kernel) cd_o0 rfl ?_
            refine pe_get (j := 330) (ci := 3) (n := 2) (by decide +kernel) (by decide +kernel) cd_o83 rfl ?_
            refine pe_iload (j := 6) (by decide +kernel) rfl ?_
            refine pz_iald (by decide +kernel) cd_a84 (cl_84 hIq42) rfl (by omega) (by omega) (fun v48 ev48 => ?_)
            exact pe_iret (by decide +kernel) rfl rfl ⟨f43, A44, R45, v48, rfl, hIq42, (fun k n529 n530 n881 n882 n886 n887 n1328 n1329 => ((hGq42 k n530 n881 n882 n886 n887 n1328 n1329)).trans ((hGq4 k n529 n530))), (fun k n39 n40 n41 n65 n66 n67 n84 => ((hFq42 k n39 n40 n65 n66 n67 n84)).trans ((hFq4 k n39 n40 n41))), (fun k n0 n2 n5 => ((hHq42 k n2 n5)).trans ((hHq4 k n0))), ⟨trivial, trivial⟩⟩
  · skip
    refine pe_iload_n (j := 0) (by decide +kernel) rfl ?_
    refine pe_iconstv (n := 1) (v := 1) (by decide +kernel) (by decide +kernel) ?_
    refine pz_icmp_eq (off := 8) (t := 14) (by decide +kernel) (by decide) rfl rfl kz_1 (fun h49 => ?_) (fun h49 => ?_)
    · skip
      refine pe_iconstv (n := 1) (v := 1) (by decide +kernel) (by decide +kernel) ?_
      refine pe_goto (off := 4) (t := 19) (by decide +kernel) (by decide) rfl ?_
      refine pe_iret (by decide +kernel) rfl rfl ⟨rfl, rfl, ?_⟩
      show pmE pg X pg_tyl pg_cl (d + 11) 155 5 [.ref 0, .int x1, .int x2, .int x3, .int x4, .int x5, pm_dead, pm_dead] [.int 1] (cd f A R wr) _
      refine pz_if_eq (off := 13) (t := 18) (by decide +kernel) (by decide) rfl kz_1 (fun h50 => by omega) (fun h50 => ?_)
      refine pe_aload_n (j := 0) (by decide +kernel) rfl ?_
      refine pe_iload_n (j := 1) (by decide +kernel) rfl ?_
      refine pe_iload_n (j := 2) (by decide +kernel) rfl ?_
      refine pe_iload_n (j := 3) (by decide +kernel) rfl ?_
      refine pz_callV (j := 201) (mj := 98) (by decide +kernel) (cll_V (args := [.int x3, .int x2, .int x1]) (n := 3) (by decide +kernel) rfl rfl cd_o0 (by decide +kernel) (Nat.le_of_ble_eq_true rfl) (Nat.le_of_ble_eq_true rfl)) (CM_98 hX hI) (fun q51a q51b q51c q51d hqq51 => ?_)
      obtain ⟨f52, A53, R54, rq51, eq51, hIq51, hGq51, hFq51, hHq51, kq51⟩ := hqq51
      cases eq51
      refine ⟨rfl, rfl, ?_⟩
      rcases kq51 with kq51 | kq51
      · skip
        obtain ⟨erq51, kq51⟩ := kq51
        subst erq51
        show pmE pg X pg_tyl pg_cl (d + 11) 155 15 [.ref 0, .int x1, .int x2, .int x3, .int x4, .int x5, pm_dead, pm_dead] [.int 0] (cd f52 A53 R54 wr) _
        refine pz_if_ne (off := 5) (t := 20) (by decide +kernel) (by decide) rfl kz_0 (fun h55 => by omega) (fun h55 => ?_)
        refine pe_iconstv (n := (-1)) (v := (-1)) (by decide +kernel) (by decide +kernel) ?_
        exact pe_iret (by decide +kernel) rfl rfl ⟨f52, A53, R54, (-1), rfl, hIq51, (fun k n529 n530 n881 n882 n886 n887 n1328 n1329 => (hGq51 k n529 n530)), (fun k n39 n40 n41 n65 n66 n67 n84 => (hFq51 k n39 n40 n41)), (fun k n0 n2 n5 => (hHq51 k n0)), ⟨trivial, trivial⟩⟩
      · skip
        obtain ⟨erq51, kq51⟩ := kq51
        subst erq51
        obtain ⟨⟨v12, hv12, hR0q51⟩, kq51⟩ := kq51
        have bv12 := VV_b hv12
        show pmE pg X pg_tyl pg_cl (d + 11) 155 15 [.ref 0, .int x1, .int x2, .int x3, .int x4, .int x5, pm_dead, pm_dead] [.int 1] (cd f52 A53 R54 wr) _
        refine pz_if_ne (off := 5) (t := 20) (by decide +kernel) (by decide) rfl kz_1 (fun h56 => ?_) (fun h56 => by omega)
        refine pe_iload (j := 5) (by decide +kernel) rfl ?_
        refine pe_bipushv (n := 10) (v := 10) (by decide +kernel) (by decide +kernel) ?_
        refine pw_sub (by decide +kernel) (fun z57 => ?_)
        refine pe_istore (j := 6) (ls' := [.ref 0, .int x1, .int x2, .int x3, .int x4, .int x5, .int z57, pm_dead]) (by decide +kernel) (Nat.le_of_ble_eq_true rfl) rfl ?_
        refine pe_iload (j := 5) (by decide +kernel) rfl ?_
        refine pe_bipushv (n := 10) (v := 10) (by decide +kernel) (by decide +kernel) ?_
        have lw59 := zi_lo x5
        have uw59 := zi_hi x5
        refine pz_icmp_lt (off := 22) (t := 53) (by decide +kernel) (by decide) rfl rfl kz_10 (fun h58 => ?_) (fun h58 => ?_)
        · skip
          refine pe_iconstv (n := 0) (v := 0) (by decide +kernel) (by decide +kernel) ?_
          refine pe_istore (j := 7) (ls' := [.ref 0, .int x1, .int x2, .int x3, .int x4, .int x5, .int z57, .int 0]) (by decide +kernel) (Nat.le_of_ble_eq_true rfl) rfl ?_
          refine pe_iload (j := 5) (by decide +kernel) rfl ?_
          refine pz_if_eq (off := 16) (t := 74) (by decide +kernel) (by decide) rfl rfl (fun h60 => ?_) (fun h60 => ?_)
          · skip
            refine pe_aload_n (j := 0) (by decide +kernel) rfl ?_
            refine pe_get (j := 62) (ci := 11) (n := 8) (by decide +kernel) (by decide +kernel) cd_o0 rfl ?_
            refine pe_aload_n (j := 0) (by decide +kernel) rfl ?_
            refine pe_get (j := 34) (ci := 11) (n := 4) (by decide +kernel) (by decide +kernel) cd_o0 rfl ?_
            refine pe_aload_n (j := 0) (by decide +kernel) rfl ?_
            refine pe_get (j := 48) (ci := 11) (n := 6) (by decide +kernel) (by decide +kernel) cd_o0 rfl ?_
            refine pe_iload (j := 4) (by decide +kernel) rfl ?_
            refine pz_callV (j := 320) (mj := 156) (by decide +kernel) (cll_V (args := [.int x4, .ref 55, .ref 33]) (n := 3) (by decide +kernel) rfl rfl cd_o83 (by decide +kernel) (Nat.le_of_ble_eq_true rfl) (Nat.le_of_ble_eq_true rfl)) (CM_156 hX hIq51 hv12 (hR0q51)) (fun q61a q61b q61c q61d hqq61 => ?_)
            obtain ⟨f62, A63, R64, eq61, hIq61, hGq61, hFq61, hHq61, kq61⟩ := hqq61
            cases eq61
            refine ⟨rfl, rfl, ?_⟩
            show pmE pg X pg_tyl pg_cl (d + 11) 155 91 [.ref 0, .int x1, .int x2, .int x3, .int x4, .int x5, .int z57, .int 0] [] (cd f62 A63 R64 wr) _
            refine pe_iload (j := 5) (by decide +kernel) rfl ?_
            refine pz_if_ne (off := 11) (t := 104) (by decide +kernel) (by decide) rfl rfl (fun h65 => by omega) (fun h65 => ?_)
            refine pe_aload_n (j := 0) (by decide +kernel) rfl ?_
            refine pe_get (j := 62) (ci := 11) (n := 8) (by decide +kernel) (by decide +kernel) cd_o0 rfl ?_
            refine pe_get (j := 324) (ci := 3) (n := 0) (by decide +kernel) (by decide +kernel) cd_o83 rfl ?_
            exact pe_iret (by decide +kernel) rfl rfl ⟨f62, A63, R64, (f62 1328), rfl, hIq61, (fun k n529 n530 n881 n882 n886 n887 n1328 n1329 => ((hGq61 k n530 n881 n882 n886 n887 n1328 n1329)).trans ((hGq51 k n529 n530))), (fun k n39 n40 n41 n65 n66 n67 n84 => ((hFq61 k n39 n40 n65 n66 n67 n84)).trans ((hFq51 k n39 n40 n41))), (fun k n0 n2 n5 => ((hHq61 k n2 n5)).trans ((hHq51 k n0))), ⟨trivial, trivial⟩⟩
          · skip
            refine pe_iload (j := 5) (by decide +kernel) rfl ?_
            refine pe_iconstv (n := 1) (v := 1) (by decide +kernel) (by decide +kernel) ?_
            refine pz_icmp_eq (off := 10) (t := 74) (by decide +kernel) (by decide) rfl rfl kz_1 (fun h66 => ?_) (fun h66 => ?_)
            · skip
              refine pe_aload_n (j := 0) (by decide +kernel) rfl ?_
              refine pe_get (j := 62) (ci := 11) (n := 8) (by decide +kernel) (by decide +kernel) cd_o0 rfl ?_
              refine pe_aload_n (j := 0) (by decide +kernel) rfl ?_
              refine pe_get (j := 34) (ci := 11) (n := 4) (by decide +kernel) (by decide +kernel) cd_o0 rfl ?_
              refine pe_aload_n (j := 0) (by decide +kernel) rfl ?_
              refine pe_get (j := 48) (ci := 11) (n := 6) (by decide +kernel) (by decide +kernel) cd_o0 rfl ?_
              refine pe_iload (j := 4) (by decide +kernel) rfl ?_
              refine pz_callV (j := 320) (mj := 156) (by decide +kernel) (cll_V (args := [.int x4, .ref 55, .ref 33]) (n := 3) (by decide +kernel) rfl rfl cd_o83 (by decide +kernel) (Nat.le_of_ble_eq_true rfl) (Nat.le_of_ble_eq_true rfl)) (CM_156 hX hIq51 hv12 (hR0q51)) (fun q67a q67b q67c q67d hqq67 => ?_)
              obtain ⟨f68, A69, R70, eq67, hIq67, hGq67, hFq67, hHq67, kq67⟩ := hqq67
              cases eq67
              refine ⟨rfl, rfl, ?_⟩
              show pmE pg X pg_tyl pg_cl (d + 11) 155 91 [.ref 0, .int x1, .int x2, .int x3, .int x4, .int x5, .int z57, .int 0] [] (cd f68 A69 R70 wr) _
              refine pe_iload (j := 5) (by decide +kernel) rfl ?_
              refine pz_if_ne (off := 11) (t := 104) (by decide +kernel) (by decide) rfl rfl (fun h71 => ?_) (fun h71 => by omega)
              refine pe_iload (j := 5) (by decide +kernel) rfl ?_
              refine pe_iconstv (n := 1) (v := 1) (by decide +kernel) (by decide +kernel) ?_
              refine pz_icmp_ne (off := 13) (t := 120) (by decide +kernel) (by decide) rfl rfl kz_1 (fun h72 => by omega) (fun h72 => ?_)
              refine pe_aload_n (j := 0) (by decide +kernel) rfl ?_
              refine pe_get (j := 62) (ci := 11) (n := 8) (by decide +kernel) (by decide +kernel) cd_o0 rfl ?_
              refine pe_get (j := 327) (ci := 3) (n := 1) (by decide +kernel) (by decide +kernel) cd_o83 rfl ?_
              refine pe_goto (off := 13) (t := 130) (by decide +kernel) (by decide) rfl ?_
              exact pe_iret (by decide +kernel) rfl rfl ⟨f68, A69, R70, (f68 1329), rfl, hIq67, (fun k n529 n530 n881 n882 n886 n887 n1328 n1329 => ((hGq67 k n530 n881 n882 n886 n887 n1328 n1329)).trans ((hGq51 k n529 n530))), (fun k n39 n40 n41 n65 n66 n67 n84 => ((hFq67 k n39 n40 n65 n66 n67 n84)).trans ((hFq51 k n39 n40 n41))), (fun k n0 n2 n5 => ((hHq67 k n2 n5)).trans ((hHq51 k n0))), ⟨trivial, trivial⟩⟩
            · skip
              refine pe_iload (j := 7) (by decide +kernel) rfl ?_
              refine pz_if_ne (off := 5) (t := 74) (by decide +kernel) (by decide) rfl kz_0 (fun h73 => by omega) (fun h73 => ?_)
              refine pe_iconstv (n := (-1)) (v := (-1)) (by decide +kernel) (by decide +kernel) ?_
              exact pe_iret (by decide +kernel) rfl rfl ⟨f52, A53, R54, (-1), rfl, hIq51, (fun k n529 n530 n881 n882 n886 n887 n1328 n1329 => (hGq51 k n529 n530)), (fun k n39 n40 n41 n65 n66 n67 n84 => (hFq51 k n39 n40 n41)), (fun k n0 n2 n5 => (hHq51 k n0)), ⟨trivial, trivial⟩⟩
        · skip
          refine pe_aload_n (j := 0) (by decide +kernel) rfl ?_
          refine pe_get (j := 34) (ci := 11) (n := 4) (by decide +kernel) (by decide +kernel) cd_o0 rfl ?_
          refine pe_get (j := 287) (ci := 7) (n := 0) (by decide +kernel) (by decide +kernel) cd_o33 rfl ?_
          refine pe_topV (v := .ref v12) (hR0q51) ?_
          refine pe_iload (j := 6) (by decide +kernel) rfl ?_
          refine pi_V (j := 126) (mj := 61) (by decide +kernel) (cll_V (args := [.int z57]) (n := 1) (by decide +kernel) rfl rfl (cv_o hv12) (by decide +kernel) (Nat.le_of_ble_eq_true rfl) (Nat.le_of_ble_eq_true rfl)) ?_
          show pmE pg X pg_tyl pg_cl (d + 10) 61 0 [.ref v12, .int z57] [] (cd f52 A53 R54 wr) _
          refine pe_iload_n (j := 1) (by decide +kernel) rfl ?_
          have lw75 := zi_lo z57
          have uw75 := zi_hi z57
          refine pz_if_lt (off := 15) (t := 16) (by decide +kernel) (by decide) rfl rfl (fun h74 => ?_) (fun h74 => ?_)
          · skip
            refine pe_iconstv (n := 0) (v := 0) (by decide +kernel) (by decide +kernel) ?_
            refine pe_iret (by decide +kernel) rfl rfl ⟨rfl, rfl, ?_⟩
            show pmE pg X pg_tyl pg_cl (d + 11) 155 46 [.ref 0, .int x1, .int x2, .int x3, .int x4, .int x5, .int z57, pm_dead] [.int 0] (cd f52 A53 R54 wr) _
            refine pz_if_eq (off := 7) (t := 53) (by decide +kernel) (by decide) rfl kz_0 (fun h76 => ?_) (fun h76 => by omega)
            refine pe_iconstv (n := 0) (v := 0) (by decide +kernel) (by decide +kernel) ?_
            refine pe_istore (j := 7) (ls' := [.ref 0, .int x1, .int x2, .int x3, .int x4, .int x5, .int z57, .int 0]) (by decide +kernel) (Nat.le_of_ble_eq_true rfl) rfl ?_
            refine pe_iload (j := 5) (by decide +kernel) rfl ?_
            refine pz_if_eq (off := 16) (t := 74) (by decide +kernel) (by decide) rfl rfl (fun h77 => by omega) (fun h77 => ?_)
            refine pe_iload (j := 5) (by decide +kernel) rfl ?_
            refine pe_iconstv (n := 1) (v := 1) (by decide +kernel) (by decide +kernel) ?_
            refine pz_icmp_eq (off := 10) (t := 74) (by decide +kernel) (by decide) rfl rfl kz_1 (fun h78 => by omega) (fun h78 => ?_)
            refine pe_iload (j := 7) (by decide +kernel) rfl ?_
            refine pz_if_ne (off := 5) (t := 74) (by decide +kernel) (by decide) rfl kz_0 (fun h79 => by omega) (fun h79 => ?_)
            refine pe_iconstv (n := (-1)) (v := (-1)) (by decide +kernel) (by decide +kernel) ?_
            exact pe_iret (by decide +kernel) rfl rfl ⟨f52, A53, R54, (-1), rfl, hIq51, (fun k n529 n530 n881 n882 n886 n887 n1328 n1329 => (hGq51 k n529 n530)), (fun k n39 n40 n41 n65 n66 n67 n84 => (hFq51 k n39 n40 n41)), (fun k n0 n2 n5 => (hHq51 k n0)), ⟨trivial, trivial⟩⟩
          · skip
            refine pe_iload_n (j := 1) (by decide +kernel) rfl ?_
            refine pe_aload_n (j := 0) (by decide +kernel) rfl ?_
            refine pe_get (j := 9) (ci := 9) (n := 0) (by decide +kernel) (by decide +kernel) (cv_o hv12) rfl ?_
            have hr_f_16v12 := cv_people hv12 hI
            refine pe_top (v := (f (16 * v12))) ((hGq51 (16 * v12) (by omega) (by omega))) ?_
            refine pz_icmp_ge (off := 7) (t := 16) (by decide +kernel) (by decide) rfl rfl rfl (fun h80 => ?_) (fun h80 => ?_)
            · skip
              refine pe_iconstv (n := 0) (v := 0) (by decide +kernel) (by decide +kernel) ?_
              refine pe_iret (by decide +kernel) rfl rfl ⟨rfl, rfl, ?_⟩
              show pmE pg X pg_tyl pg_cl (d + 11) 155 46 [.ref 0, .int x1, .int x2, .int x3, .int x4, .int x5, .int z57, pm_dead] [.int 0] (cd f52 A53 R54 wr) _
              refine pz_if_eq (off := 7) (t := 53) (by decide +kernel) (by decide) rfl kz_0 (fun h81 => ?_) (fun h81 => by omega)
              refine pe_iconstv (n := 0) (v := 0) (by decide +kernel) (by decide +kernel) ?_
              refine pe_istore (j := 7) (ls' := [.ref 0, .int x1, .int x2, .int x3, .int x4, .int x5, .int z57, .int 0]) (by decide +kernel) (Nat.le_of_ble_eq_true rfl) rfl ?_
              refine pe_iload (j := 5) (by decide +kernel) rfl ?_
              refine pz_if_eq (off := 16) (t := 74) (by decide +kernel) (by decide) rfl rfl (fun h82 => by omega) (fun h82 => ?_)
              refine pe_iload (j := 5) (by decide +kernel) rfl ?_
              refine pe_iconstv (n := 1) (v := 1) (by decide +kernel) (by decide +kernel) ?_
              refine pz_icmp_eq (off := 10) (t := 74) (by decide +kernel) (by decide) rfl rfl kz_1 (fun h83 => by omega) (fun h83 => ?_)
              refine pe_iload (j := 7) (by decide +kernel) rfl ?_
              refine pz_if_ne (off := 5) (t := 74) (by decide +kernel) (by decide) rfl kz_0 (fun h84 => by omega) (fun h84 => ?_)
              refine pe_iconstv (n := (-1)) (v := (-1)) (by decide +kernel) (by decide +kernel) ?_
              exact pe_iret (by decide +kernel) rfl rfl ⟨f52, A53, R54, (-1), rfl, hIq51, (fun k n529 n530 n881 n882 n886 n887 n1328 n1329 => (hGq51 k n529 n530)), (fun k n39 n40 n41 n65 n66 n67 n84 => (hFq51 k n39 n40 n41)), (fun k n0 n2 n5 => (hHq51 k n0)), ⟨trivial, trivial⟩⟩
            · skip
              refine pe_iconstv (n := 1) (v := 1) (by decide +kernel) (by decide +kernel) ?_
              refine pe_goto (off := 4) (t := 17) (by decide +kernel) (by decide) rfl ?_
              refine pe_iret (by decide +kernel) rfl rfl ⟨rfl, rfl, ?_⟩
              show pmE pg X pg_tyl pg_cl (d + 11) 155 46 [.ref 0, .int x1, .int x2, .int x3, .int x4, .int x5, .int z57, pm_dead] [.int 1] (cd f52 A53 R54 wr) _
              refine pz_if_eq (off := 7) (t := 53) (by decide +kernel) (by decide) rfl kz_1 (fun h85 => by omega) (fun h85 => ?_)
              refine pe_iconstv (n := 1) (v := 1) (by decide +kernel) (by decide +kernel) ?_
              refine pe_goto (off := 4) (t := 54) (by decide +kernel) (by decide) rfl ?_
              refine pe_istore (j := 7) (ls' := [.ref 0, .int x1, .int x2, .int x3, .int x4, .int x5, .int z57, .int 1]) (by decide +kernel) (Nat.le_of_ble_eq_true rfl) rfl ?_
              refine pe_iload (j := 5) (by decide +kernel) rfl ?_
              refine pz_if_eq (off := 16) (t := 74) (by decide +kernel) (by decide) rfl rfl (fun h86 => by omega) (fun h86 => ?_)
              refine pe_iload (j := 5) (by decide +kernel) rfl ?_
              refine pe_iconstv (n := 1) (v := 1) (by decide +kernel) (by decide +kernel) ?_
              refine pz_icmp_eq (off := 10) (t := 74) (by decide +kernel) (by decide) rfl rfl kz_1 (fun h87 => by omega) (fun h87 => ?_)
              refine pe_iload (j := 7) (by decide +kernel) rfl ?_
              refine pz_if_ne (off := 5) (t := 74) (by decide +kernel) (by decide) rfl kz_1 (fun h88 => ?_) (fun h88 => by omega)
              refine pe_aload_n (j := 0) (by decide +kernel) rfl ?_
              refine pe_get (j := 62) (ci := 11) (n := 8) (by decide +kernel) (by decide +kernel) cd_o0 rfl ?_
              refine pe_aload_n (j := 0) (by decide +kernel) rfl ?_
              refine pe_get (j := 34) (ci := 11) (n := 4) (by decide +kernel) (by decide +kernel) cd_o0 rfl ?_
              refine pe_aload_n (j := 0) (by decide +kernel) rfl ?_
              refine pe_get (j := 48) (ci := 11) (n := 6) (by decide +kernel) (by decide +kernel) cd_o0 rfl ?_
              refine pe_iload (j := 4) (by decide +kernel) rfl ?_
              refine pz_callV (j := 320) (mj := 156) (by decide +kernel) (cll_V (args := [.int x4, .ref 55, .ref 33]) (n := 3) (by decide +kernel) rfl rfl cd_o83 (by decide +kernel) (Nat.le_of_ble_eq_true rfl) (Nat.le_of_ble_eq_true rfl)) (CM_156 hX hIq51 hv12 (hR0q51)) (fun q89a q89b q89c q89d hqq89 => ?_)
              obtain ⟨f90, A91, R92, eq89, hIq89, hGq89, hFq89, hHq89, kq89⟩ := hqq89
              cases eq89
              refine ⟨rfl, rfl, ?_⟩
              show pmE pg X pg_tyl pg_cl (d + 11) 155 91 [.ref 0, .int x1, .int x2, .int x3, .int x4, .int x5, .int z57, .int 1] [] (cd f90 A91 R92 wr) _
              refine pe_iload (j := 5) (by decide +kernel) rfl ?_
              refine pz_if_ne (off := 11) (t := 104) (by decide +kernel) (by decide) rfl rfl (fun h93 => ?_) (fun h93 => by omega)
              refine pe_iload (j := 5) (by decide +kernel) rfl ?_
              refine pe_iconstv (n := 1) (v := 1) (by decide +kernel) (by decide +kernel) ?_
              refine pz_icmp_ne (off := 13) (t := 120) (by decide +kernel) (by decide) rfl rfl kz_1 (fun h94 => ?_) (fun h94 => by omega)
              refine pe_aload_n (j := 0) (by decide +kernel) rfl ?_
              refine pe_get (j := 62) (ci := 11) (n := 8) (by decide +kernel) (by decide +kernel) cd_o0 rfl ?_
              refine pe_get (j := 330) (ci := 3) (n := 2) (by decide +kernel) (by decide +kernel) cd_o83 rfl ?_
              refine pe_iload (j := 6) (by decide +kernel) rfl ?_
              refine pz_iald (by decide +kernel) cd_a84 (cl_84 hIq89) rfl (by omega) (by omega) (fun v95 ev95 => ?_)
              exact pe_iret (by decide +kernel) rfl rfl ⟨f90, A91, R92, v95, rfl, hIq89, (fun k n529 n530 n881 n882 n886 n887 n1328 n1329 => ((hGq89 k n530 n881 n882 n886 n887 n1328 n1329)).trans ((hGq51 k n529 n530))), (fun k n39 n40 n41 n65 n66 n67 n84 => ((hFq89 k n39 n40 n65 n66 n67 n84)).trans ((hFq51 k n39 n40 n41))), (fun k n0 n2 n5 => ((hHq89 k n2 n5)).trans ((hHq51 k n0))), ⟨trivial, trivial⟩⟩
    · skip
      refine pe_iload_n (j := 0) (by decide +kernel) rfl ?_
      refine pe_iconstv (n := 2) (v := 2) (by decide +kernel) (by decide +kernel) ?_
      refine pz_icmp_ne (off := 7) (t := 18) (by decide +kernel) (by decide) rfl rfl kz_2 (fun h96 => ?_) (fun h96 => ?_)
      · skip
        refine pe_iconstv (n := 0) (v := 0) (by decide +kernel) (by decide +kernel) ?_
        refine pe_iret (by decide +kernel) rfl rfl ⟨rfl, rfl, ?_⟩
        show pmE pg X pg_tyl pg_cl (d + 11) 155 5 [.ref 0, .int x1, .int x2, .int x3, .int x4, .int x5, pm_dead, pm_dead] [.int 0] (cd f A R wr) _
        refine pz_if_eq (off := 13) (t := 18) (by decide +kernel) (by decide) rfl kz_0 (fun h97 => ?_) (fun h97 => by omega)
        refine pe_iconstv (n := (-1)) (v := (-1)) (by decide +kernel) (by decide +kernel) ?_
        exact pe_iret (by decide +kernel) rfl rfl ⟨f, A, R, (-1), rfl, hI, (fun k n529 n530 n881 n882 n886 n887 n1328 n1329 => rfl), (fun k n39 n40 n41 n65 n66 n67 n84 => rfl), (fun k n0 n2 n5 => rfl), ⟨trivial, trivial⟩⟩
      · skip
        refine pe_iconstv (n := 1) (v := 1) (by decide +kernel) (by decide +kernel) ?_
        refine pe_goto (off := 4) (t := 19) (by decide +kernel) (by decide) rfl ?_
        refine pe_iret (by decide +kernel) rfl rfl ⟨rfl, rfl, ?_⟩
        show pmE pg X pg_tyl pg_cl (d + 11) 155 5 [.ref 0, .int x1, .int x2, .int x3, .int x4, .int x5, pm_dead, pm_dead] [.int 1] (cd f A R wr) _
        refine pz_if_eq (off := 13) (t := 18) (by decide +kernel) (by decide) rfl kz_1 (fun h98 => by omega) (fun h98 => ?_)
        refine pe_aload_n (j := 0) (by decide +kernel) rfl ?_
        refine pe_iload_n (j := 1) (by decide +kernel) rfl ?_
        refine pe_iload_n (j := 2) (by decide +kernel) rfl ?_
        refine pe_iload_n (j := 3) (by decide +kernel) rfl ?_
        refine pz_callV (j := 201) (mj := 98) (by decide +kernel) (cll_V (args := [.int x3, .int x2, .int x1]) (n := 3) (by decide +kernel) rfl rfl cd_o0 (by decide +kernel) (Nat.le_of_ble_eq_true rfl) (Nat.le_of_ble_eq_true rfl)) (CM_98 hX hI) (fun q99a q99b q99c q99d hqq99 => ?_)
        obtain ⟨f100, A101, R102, rq99, eq99, hIq99, hGq99, hFq99, hHq99, kq99⟩ := hqq99
        cases eq99
        refine ⟨rfl, rfl, ?_⟩
        rcases kq99 with kq99 | kq99
        · skip
          obtain ⟨erq99, kq99⟩ := kq99
          subst erq99
          show pmE pg X pg_tyl pg_cl (d + 11) 155 15 [.ref 0, .int x1, .int x2, .int x3, .int x4, .int x5, pm_dead, pm_dead] [.int 0] (cd f100 A101 R102 wr) _
          refine pz_if_ne (off := 5) (t := 20) (by decide +kernel) (by decide) rfl kz_0 (fun h103 => by omega) (fun h103 => ?_)
          refine pe_iconstv (n := (-1)) (v := (-1)) (by decide +kernel) (by decide +kernel) ?_
          exact pe_iret (by decide +kernel) rfl rfl ⟨f100, A101, R102, (-1), rfl, hIq99, (fun k n529 n530 n881 n882 n886 n887 n1328 n1329 => (hGq99 k n529 n530)), (fun k n39 n40 n41 n65 n66 n67 n84 => (hFq99 k n39 n40 n41)), (fun k n0 n2 n5 => (hHq99 k n0)), ⟨trivial, trivial⟩⟩
        · skip
          obtain ⟨erq99, kq99⟩ := kq99
          subst erq99
          obtain ⟨⟨v12, hv12, hR0q99⟩, kq99⟩ := kq99
          have bv12 := VV_b hv12
          show pmE pg X pg_tyl pg_cl (d + 11) 155 15 [.ref 0, .int x1, .int x2, .int x3, .int x4, .int x5, pm_dead, pm_dead] [.int 1] (cd f100 A101 R102 wr) _
          refine pz_if_ne (off := 5) (t := 20) (by decide +kernel) (by decide) rfl kz_1 (fun h104 => ?_) (fun h104 => by omega)
          refine pe_iload (j := 5) (by decide +kernel) rfl ?_
          refine pe_bipushv (n := 10) (v := 10) (by decide +kernel) (by decide +kernel) ?_
          refine pw_sub (by decide +kernel) (fun z105 => ?_)
          refine pe_istore (j := 6) (ls' := [.ref 0, .int x1, .int x2, .int x3, .int x4, .int x5, .int z105, pm_dead]) (by decide +kernel) (Nat.le_of_ble_eq_true rfl) rfl ?_
          refine pe_iload (j := 5) (by decide +kernel) rfl ?_
          refine pe_bipushv (n := 10) (v := 10) (by decide +kernel) (by decide +kernel) ?_
          have lw107 := zi_lo x5
          have uw107 := zi_hi x5
          refine pz_icmp_lt (off := 22) (t := 53) (by decide +kernel) (by decide) rfl rfl kz_10 (fun h106 => ?_) (fun h106 => ?_)
          · skip
            refine pe_iconstv (n := 0) (v := 0) (by decide +kernel) (by decide +kernel) ?_
            refine pe_istore (j := 7) (ls' := [.ref 0, .int x1, .int x2, .int x3, .int x4, .int x5, .int z105, .int 0]) (by decide +kernel) (Nat.le_of_ble_eq_true rfl) rfl ?_
            refine pe_iload (j := 5) (by decide +kernel) rfl ?_
            refine pz_if_eq (off := 16) (t := 74) (by decide +kernel) (by decide) rfl rfl (fun h108 => ?_) (fun h108 => ?_)
            · skip
              refine pe_aload_n (j := 0) (by decide +kernel) rfl ?_
              refine pe_get (j := 62) (ci := 11) (n := 8) (by decide +kernel) (by decide +kernel) cd_o0 rfl ?_
              refine pe_aload_n (j := 0) (by decide +kernel) rfl ?_
              refine pe_get (j := 34) (ci := 11) (n := 4) (by decide +kernel) (by decide +kernel) cd_o0 rfl ?_
              refine pe_aload_n (j := 0) (by decide +kernel) rfl ?_
              refine pe_get (j := 48) (ci := 11) (n := 6) (by decide +kernel) (by decide +kernel) cd_o0 rfl ?_
              refine pe_iload (j := 4) (by decide +kernel) rfl ?_
              refine pz_callV (j := 320) (mj := 156) (by decide +kernel) (cll_V (args := [.int x4, .ref 55, .ref 33]) (n := 3) (by decide +kernel) rfl rfl cd_o83 (by decide +kernel) (Nat.le_of_ble_eq_true rfl) (Nat.le_of_ble_eq_true rfl)) (CM_156 hX hIq99 hv12 (hR0q99)) (fun q109a q109b q109c q109d hqq109 => ?_)
              obtain ⟨f110, A111, R112, eq109, hIq109, hGq109, hFq109, hHq109, kq109⟩ := hqq109
              cases eq109
              refine ⟨rfl, rfl, ?_⟩
              show pmE pg X pg_tyl pg_cl (d + 11) 155 91 [.ref 0, .int x1, .int x2, .int x3, .int x4, .int x5, .int z105, .int 0] [] (cd f110 A111 R112 wr) _
              refine pe_iload (j := 5) (by decide +kernel) rfl ?_
              refine pz_if_ne (off := 11) (t := 104) (by decide +kernel) (by decide) rfl rfl (fun h113 => by omega) (fun h113 => ?_)
              refine pe_aload_n (j := 0) (by decide +kernel) rfl ?_
              refine pe_get (j := 62) (ci := 11) (n := 8) (by decide +kernel) (by decide +kernel) cd_o0 rfl ?_
              refine pe_get (j := 324) (ci := 3) (n := 0) (by decide +kernel) (by decide +kernel) cd_o83 rfl ?_
              exact pe_iret (by decide +kernel) rfl rfl ⟨f110, A111, R112, (f110 1328), rfl, hIq109, (fun k n529 n530 n881 n882 n886 n887 n1328 n1329 => ((hGq109 k n530 n881 n882 n886 n887 n1328 n1329)).trans ((hGq99 k n529 n530))), (fun k n39 n40 n41 n65 n66 n67 n84 => ((hFq109 k n39 n40 n65 n66 n67 n84)).trans ((hFq99 k n39 n40 n41))), (fun k n0 n2 n5 => ((hHq109 k n2 n5)).trans ((hHq99 k n0))), ⟨trivial, trivial⟩⟩
            · skip
              refine pe_iload (j := 5) (by decide +kernel) rfl ?_
              refine pe_iconstv (n := 1) (v := 1) (by decide +kernel) (by decide +kernel) ?_
              refine pz_icmp_eq (off := 10) (t := 74) (by decide +kernel) (by decide) rfl rfl kz_1 (fun h114 => ?_) (fun h114 => ?_)
              · skip
                refine pe_aload_n (j := 0) (by decide +kernel) rfl ?_
                refine pe_get (j := 62) (ci := 11) (n := 8) (by decide +kernel) (by decide +kernel) cd_o0 rfl ?_
                refine pe_aload_n (j := 0) (by decide +kernel) rfl ?_
                refine pe_get (j := 34) (ci := 11) (n := 4) (by decide +kernel) (by decide +kernel) cd_o0 rfl ?_
                refine pe_aload_n (j := 0) (by decide +kernel) rfl ?_
                refine pe_get (j := 48) (ci := 11) (n := 6) (by decide +kernel) (by decide +kernel) cd_o0 rfl ?_
                refine pe_iload (j := 4) (by decide +kernel) rfl ?_
                refine pz_callV (j := 320) (mj := 156) (by decide +kernel) (cll_V (args := [.int x4, .ref 55, .ref 33]) (n := 3) (by decide +kernel) rfl rfl cd_o83 (by decide +kernel) (Nat.le_of_ble_eq_true rfl) (Nat.le_of_ble_eq_true rfl)) (CM_156 hX hIq99 hv12 (hR0q99)) (fun q115a q115b q115c q115d hqq115 => ?_)
                obtain ⟨f116, A117, R118, eq115, hIq115, hGq115, hFq115, hHq115, kq115⟩ := hqq115
                cases eq115
                refine ⟨rfl, rfl, ?_⟩
                show pmE pg X pg_tyl pg_cl (d + 11) 155 91 [.ref 0, .int x1, .int x2, .int x3, .int x4, .int x5, .int z105, .int 0] [] (cd f116 A117 R118 wr) _
                refine pe_iload (j := 5) (by decide +kernel) rfl ?_
                refine pz_if_ne (off := 11) (t := 104) (by decide +kernel) (by decide) rfl rfl (fun h119 => ?_) (fun h119 => by omega)
                refine pe_iload (j := 5) (by decide +kernel) rfl ?_
                refine pe_iconstv (n := 1) (v := 1) (by decide +kernel) (by decide +kernel) ?_
                refine pz_icmp_ne (off := 13) (t := 120) (by decide +kernel) (by decide) rfl rfl kz_1 (fun h120 => by omega) (fun h120 => ?_)
                refine pe_aload_n (j := 0) (by decide +kernel) rfl ?_
                refine pe_get (j := 62) (ci := 11) (n := 8) (by decide +kernel) (by decide +kernel) cd_o0 rfl ?_
                refine pe_get (j := 327) (ci := 3) (n := 1) (by decide +kernel) (by decide +kernel) cd_o83 rfl ?_
                refine pe_goto (off := 13) (t := 130) (by decide +kernel) (by decide) rfl ?_
                exact pe_iret (by decide +kernel) rfl rfl ⟨f116, A117, R118, (f116 1329), rfl, hIq115, (fun k n529 n530 n881 n882 n886 n887 n1328 n1329 => ((hGq115 k n530 n881 n882 n886 n887 n1328 n1329)).trans ((hGq99 k n529 n530))), (fun k n39 n40 n41 n65 n66 n67 n84 => ((hFq115 k n39 n40 n65 n66 n67 n84)).trans ((hFq99 k n39 n40 n41))), (fun k n0 n2 n5 => ((hHq115 k n2 n5)).trans ((hHq99 k n0))), ⟨trivial, trivial⟩⟩
              · skip
                refine pe_iload (j := 7) (by decide +kernel) rfl ?_
                refine pz_if_ne (off := 5) (t := 74) (by decide +kernel) (by decide) rfl kz_0 (fun h121 => by omega) (fun h121 => ?_)
                refine pe_iconstv (n := (-1)) (v := (-1)) (by decide +kernel) (by decide +kernel) ?_
                exact pe_iret (by decide +kernel) rfl rfl ⟨f100, A101, R102, (-1), rfl, hIq99, (fun k n529 n530 n881 n882 n886 n887 n1328 n1329 => (hGq99 k n529 n530)), (fun k n39 n40 n41 n65 n66 n67 n84 => (hFq99 k n39 n40 n41)), (fun k n0 n2 n5 => (hHq99 k n0)), ⟨trivial, trivial⟩⟩
          · skip
            refine pe_aload_n (j := 0) (by decide +kernel) rfl ?_
            refine pe_get (j := 34) (ci := 11) (n := 4) (by decide +kernel) (by decide +kernel) cd_o0 rfl ?_
            refine pe_get (j := 287) (ci := 7) (n := 0) (by decide +kernel) (by decide +kernel) cd_o33 rfl ?_
            refine pe_topV (v := .ref v12) (hR0q99) ?_
            refine pe_iload (j := 6) (by decide +kernel) rfl ?_
            refine pi_V (j := 126) (mj := 61) (by decide +kernel) (cll_V (args := [.int z105]) (n := 1) (by decide +kernel) rfl rfl (cv_o hv12) (by decide +kernel) (Nat.le_of_ble_eq_true rfl) (Nat.le_of_ble_eq_true rfl)) ?_
            show pmE pg X pg_tyl pg_cl (d + 10) 61 0 [.ref v12, .int z105] [] (cd f100 A101 R102 wr) _
            refine pe_iload_n (j := 1) (by decide +kernel) rfl ?_
            have lw123 := zi_lo z105
            have uw123 := zi_hi z105
            refine pz_if_lt (off := 15) (t := 16) (by decide +kernel) (by decide) rfl rfl (fun h122 => ?_) (fun h122 => ?_)
            · skip
              refine pe_iconstv (n := 0) (v := 0) (by decide +kernel) (by decide +kernel) ?_
              refine pe_iret (by decide +kernel) rfl rfl ⟨rfl, rfl, ?_⟩
              show pmE pg X pg_tyl pg_cl (d + 11) 155 46 [.ref 0, .int x1, .int x2, .int x3, .int x4, .int x5, .int z105, pm_dead] [.int 0] (cd f100 A101 R102 wr) _
              refine pz_if_eq (off := 7) (t := 53) (by decide +kernel) (by decide) rfl kz_0 (fun h124 => ?_) (fun h124 => by omega)
              refine pe_iconstv (n := 0) (v := 0) (by decide +kernel) (by decide +kernel) ?_
              refine pe_istore (j := 7) (ls' := [.ref 0, .int x1, .int x2, .int x3, .int x4, .int x5, .int z105, .int 0]) (by decide +kernel) (Nat.le_of_ble_eq_true rfl) rfl ?_
              refine pe_iload (j := 5) (by decide +kernel) rfl ?_
              refine pz_if_eq (off := 16) (t := 74) (by decide +kernel) (by decide) rfl rfl (fun h125 => by omega) (fun h125 => ?_)
              refine pe_iload (j := 5) (by decide +kernel) rfl ?_
              refine pe_iconstv (n := 1) (v := 1) (by decide +kernel) (by decide +kernel) ?_
              refine pz_icmp_eq (off := 10) (t := 74) (by decide +kernel) (by decide) rfl rfl kz_1 (fun h126 => by omega) (fun h126 => ?_)
              refine pe_iload (j := 7) (by decide +kernel) rfl ?_
              refine pz_if_ne (off := 5) (t := 74) (by decide +kernel) (by decide) rfl kz_0 (fun h127 => by omega) (fun h127 => ?_)
              refine pe_iconstv (n := (-1)) (v := (-1)) (by decide +kernel) (by decide +kernel) ?_
              exact pe_iret (by decide +kernel) rfl rfl ⟨f100, A101, R102, (-1), rfl, hIq99, (fun k n529 n530 n881 n882 n886 n887 n1328 n1329 => (hGq99 k n529 n530)), (fun k n39 n40 n41 n65 n66 n67 n84 => (hFq99 k n39 n40 n41)), (fun k n0 n2 n5 => (hHq99 k n0)), ⟨trivial, trivial⟩⟩
            · skip
              refine pe_iload_n (j := 1) (by decide +kernel) rfl ?_
              refine pe_aload_n (j := 0) (by decide +kernel) rfl ?_
              refine pe_get (j := 9) (ci := 9) (n := 0) (by decide +kernel) (by decide +kernel) (cv_o hv12) rfl ?_
              have hr_f_16v12 := cv_people hv12 hI
              refine pe_top (v := (f (16 * v12))) ((hGq99 (16 * v12) (by omega) (by omega))) ?_
              refine pz_icmp_ge (off := 7) (t := 16) (by decide +kernel) (by decide) rfl rfl rfl (fun h128 => ?_) (fun h128 => ?_)
              · skip
                refine pe_iconstv (n := 0) (v := 0) (by decide +kernel) (by decide +kernel) ?_
                refine pe_iret (by decide +kernel) rfl rfl ⟨rfl, rfl, ?_⟩
                show pmE pg X pg_tyl pg_cl (d + 11) 155 46 [.ref 0, .int x1, .int x2, .int x3, .int x4, .int x5, .int z105, pm_dead] [.int 0] (cd f100 A101 R102 wr) _
                refine pz_if_eq (off := 7) (t := 53) (by decide +kernel) (by decide) rfl kz_0 (fun h129 => ?_) (fun h129 => by omega)
                refine pe_iconstv (n := 0) (v := 0) (by decide +kernel) (by decide +kernel) ?_
                refine pe_istore (j := 7) (ls' := [.ref 0, .int x1, .int x2, .int x3, .int x4, .int x5, .int z105, .int 0]) (by decide +kernel) (Nat.le_of_ble_eq_true rfl) rfl ?_
                refine pe_iload (j := 5) (by decide +kernel) rfl ?_
                refine pz_if_eq (off := 16) (t := 74) (by decide +kernel) (by decide) rfl rfl (fun h130 => by omega) (fun h130 => ?_)
                refine pe_iload (j := 5) (by decide +kernel) rfl ?_
                refine pe_iconstv (n := 1) (v := 1) (by decide +kernel) (by decide +kernel) ?_
                refine pz_icmp_eq (off := 10) (t := 74) (by decide +kernel) (by decide) rfl rfl kz_1 (fun h131 => by omega) (fun h131 => ?_)
                refine pe_iload (j := 7) (by decide +kernel) rfl ?_
                refine pz_if_ne (off := 5) (t := 74) (by decide +kernel) (by decide) rfl kz_0 (fun h132 => by omega) (fun h132 => ?_)
                refine pe_iconstv (n := (-1)) (v := (-1)) (by decide +kernel) (by decide +kernel) ?_
                exact pe_iret (by decide +kernel) rfl rfl ⟨f100, A101, R102, (-1), rfl, hIq99, (fun k n529 n530 n881 n882 n886 n887 n1328 n1329 => (hGq99 k n529 n530)), (fun k n39 n40 n41 n65 n66 n67 n84 => (hFq99 k n39 n40 n41)), (fun k n0 n2 n5 => (hHq99 k n0)), ⟨trivial, trivial⟩⟩
              · skip
                refine pe_iconstv (n := 1) (v := 1) (by decide +kernel) (by decide +kernel) ?_
                refine pe_goto (off := 4) (t := 17) (by decide +kernel) (by decide) rfl ?_
                refine pe_iret (by decide +kernel) rfl rfl ⟨rfl, rfl, ?_⟩
                show pmE pg X pg_tyl pg_cl (d + 11) 155 46 [.ref 0, .int x1, .int x2, .int x3, .int x4, .int x5, .int z105, pm_dead] [.int 1] (cd f100 A101 R102 wr) _
                refine pz_if_eq (off := 7) (t := 53) (by decide +kernel) (by decide) rfl kz_1 (fun h133 => by omega) (fun h133 => ?_)
                refine pe_iconstv (n := 1) (v := 1) (by decide +kernel) (by decide +kernel) ?_
                refine pe_goto (off := 4) (t := 54) (by decide +kernel) (by decide) rfl ?_
                refine pe_istore (j := 7) (ls' := [.ref 0, .int x1, .int x2, .int x3, .int x4, .int x5, .int z105, .int 1]) (by decide +kernel) (Nat.le_of_ble_eq_true rfl) rfl ?_
                refine pe_iload (j := 5) (by decide +kernel) rfl ?_
                refine pz_if_eq (off := 16) (t := 74) (by decide +kernel) (by decide) rfl rfl (fun h134 => by omega) (fun h134 => ?_)
                refine pe_iload (j := 5) (by decide +kernel) rfl ?_
                refine pe_iconstv (n := 1) (v := 1) (by decide +kernel) (by decide +kernel) ?_
                refine pz_icmp_eq (off := 10) (t := 74) (by decide +kernel) (by decide) rfl rfl kz_1 (fun h135 => by omega) (fun h135 => ?_)
                refine pe_iload (j := 7) (by decide +kernel) rfl ?_
                refine pz_if_ne (off := 5) (t := 74) (by decide +kernel) (by decide) rfl kz_1 (fun h136 => ?_) (fun h136 => by omega)
                refine pe_aload_n (j := 0) (by decide +kernel) rfl ?_
                refine pe_get (j := 62) (ci := 11) (n := 8) (by decide +kernel) (by decide +kernel) cd_o0 rfl ?_
                refine pe_aload_n (j := 0) (by decide +kernel) rfl ?_
                refine pe_get (j := 34) (ci := 11) (n := 4) (by decide +kernel) (by decide +kernel) cd_o0 rfl ?_
                refine pe_aload_n (j := 0) (by decide +kernel) rfl ?_
                refine pe_get (j := 48) (ci := 11) (n := 6) (by decide +kernel) (by decide +kernel) cd_o0 rfl ?_
                refine pe_iload (j := 4) (by decide +kernel) rfl ?_
                refine pz_callV (j := 320) (mj := 156) (by decide +kernel) (cll_V (args := [.int x4, .ref 55, .ref 33]) (n := 3) (by decide +kernel) rfl rfl cd_o83 (by decide +kernel) (Nat.le_of_ble_eq_true rfl) (Nat.le_of_ble_eq_true rfl)) (CM_156 hX hIq99 hv12 (hR0q99)) (fun q137a q137b q137c q137d hqq137 => ?_)
                obtain ⟨f138, A139, R140, eq137, hIq137, hGq137, hFq137, hHq137, kq137⟩ := hqq137
                cases eq137
                refine ⟨rfl, rfl, ?_⟩
                show pmE pg X pg_tyl pg_cl (d + 11) 155 91 [.ref 0, .int x1, .int x2, .int x3, .int x4, .int x5, .int z105, .int 1] [] (cd f138 A139 R140 wr) _
                refine pe_iload (j := 5) (by decide +kernel) rfl ?_
                refine pz_if_ne (off := 11) (t := 104) (by decide +kernel) (by decide) rfl rfl (fun h141 => ?_) (fun h141 => by omega)
                refine pe_iload (j := 5) (by decide +kernel) rfl ?_
                refine pe_iconstv (n := 1) (v := 1) (by decide +kernel) (by decide +kernel) ?_
                refine pz_icmp_ne (off := 13) (t := 120) (by decide +kernel) (by decide) rfl rfl kz_1 (fun h142 => ?_) (fun h142 => by omega)
                refine pe_aload_n (j := 0) (by decide +kernel) rfl ?_
                refine pe_get (j := 62) (ci := 11) (n := 8) (by decide +kernel) (by decide +kernel) cd_o0 rfl ?_
                refine pe_get (j := 330) (ci := 3) (n := 2) (by decide +kernel) (by decide +kernel) cd_o83 rfl ?_
                refine pe_iload (j := 6) (by decide +kernel) rfl ?_
                refine pz_iald (by decide +kernel) cd_a84 (cl_84 hIq137) rfl (by omega) (by omega) (fun v143 ev143 => ?_)
                exact pe_iret (by decide +kernel) rfl rfl ⟨f138, A139, R140, v143, rfl, hIq137, (fun k n529 n530 n881 n882 n886 n887 n1328 n1329 => ((hGq137 k n530 n881 n882 n886 n887 n1328 n1329)).trans ((hGq99 k n529 n530))), (fun k n39 n40 n41 n65 n66 n67 n84 => ((hFq137 k n39 n40 n65 n66 n67 n84)).trans ((hFq99 k n39 n40 n41))), (fun k n0 n2 n5 => ((hHq137 k n2 n5)).trans ((hHq99 k n0))), ⟨trivial, trivial⟩⟩
end
