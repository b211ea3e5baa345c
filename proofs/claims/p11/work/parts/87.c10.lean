set_option maxRecDepth 100000 in
set_option maxHeartbeats 8000000 in
theorem CM_120 {X : pm_X} {d : Nat} {wr : pm_W} {f : Nat → Int32} {A : Nat → List Int32} {R : Nat → Value} {x1 x2 x3 x4 x5 : Int32} (hX : XO X) (hI : CI f A R) : pmE pg X pg_tyl pg_cl (d + 6) 120 0 (pm_ent (pm_max pg 120) [.ref 0, .int x1, .int x2, .int x3, .int x4, .int x5]) [] (cd f A R wr) (fun q => ∃ (f' : Nat → Int32) (A' : Nat → List Int32) (R' : Nat → Value) (r : Int32), q = (some (.int r), cd f' A' R' wr, 0, 0) ∧ CI f' A' R' ∧ (∀ k : Nat, k ≠ 529 → k ≠ 530 → f' k = f k) ∧ (∀ k : Nat, k ≠ 39 → k ≠ 40 → k ≠ 41 → A' k = A k) ∧ (∀ k : Nat, k ≠ 0 → R' k = R k) ∧ ((True ∧ True))) := by
  show pmE pg X pg_tyl pg_cl (d + 6) 120 0 [.ref 0, .int x1, .int x2, .int x3, .int x4, .int x5, pm_dead] [] (cd f A R wr) _
  refine pe_aload_n (j := 0) (by decide +kernel) rfl ?_
  refine pe_iload_n (j := 1) (by decide +kernel) rfl ?_
  refine pe_iload_n (j := 2) (by decide +kernel) rfl ?_
  refine pe_iload_n (j := 3) (by decide +kernel) rfl ?_
  refine pz_callV (j := 201) (mj := 98) (by decide +kernel) (cll_V (args := [.int x3, .int x2, .int x1]) (n := 3) (by decide +kernel) rfl rfl cd_o0 (by decide +kernel) (Nat.le_of_ble_eq_true rfl) (Nat.le_of_ble_eq_true rfl)) (CM_98 hX hI) (fun q1a q1b q1c q1d hqq1 => ?_)
  obtain ⟨f2, A3, R4, rq1, eq1, hIq1, hGq1, hFq1, hHq1, kq1⟩ := hqq1
  cases eq1
  refine ⟨rfl, rfl, ?_⟩
  rcases kq1 with kq1 | kq1
  · skip
    obtain ⟨erq1, kq1⟩ := kq1
    subst erq1
    show pmE pg X pg_tyl pg_cl (d + 6) 120 7 [.ref 0, .int x1, .int x2, .int x3, .int x4, .int x5, pm_dead] [.int 0] (cd f2 A3 R4 wr) _
    refine pz_if_eq (off := 20) (t := 27) (by decide +kernel) (by decide) rfl kz_0 (fun h5 => ?_) (fun h5 => by omega)
    refine pe_iconstv (n := (-1)) (v := (-1)) (by decide +kernel) (by decide +kernel) ?_
    exact pe_iret (by decide +kernel) rfl rfl ⟨f2, A3, R4, (-1), rfl, hIq1, (fun k n529 n530 => (hGq1 k n529 n530)), (fun k n39 n40 n41 => (hFq1 k n39 n40 n41)), (fun k n0 => (hHq1 k n0)), ⟨trivial, trivial⟩⟩
  · skip
    obtain ⟨erq1, kq1⟩ := kq1
    subst erq1
    obtain ⟨⟨v4, hv4, hR0q1⟩, kq1⟩ := kq1
    have bv4 := VV_b hv4
    show pmE pg X pg_tyl pg_cl (d + 6) 120 7 [.ref 0, .int x1, .int x2, .int x3, .int x4, .int x5, pm_dead] [.int 1] (cd f2 A3 R4 wr) _
    refine pz_if_eq (off := 20) (t := 27) (by decide +kernel) (by decide) rfl kz_1 (fun h6 => by omega) (fun h6 => ?_)
    refine pe_iload (j := 4) (by decide +kernel) rfl ?_
    have lw8 := zi_lo x4
    have uw8 := zi_hi x4
    refine pz_if_lt (off := 15) (t := 27) (by decide +kernel) (by decide) rfl rfl (fun h7 => ?_) (fun h7 => ?_)
    · skip
      refine pe_iconstv (n := (-1)) (v := (-1)) (by decide +kernel) (by decide +kernel) ?_
      exact pe_iret (by decide +kernel) rfl rfl ⟨f2, A3, R4, (-1), rfl, hIq1, (fun k n529 n530 => (hGq1 k n529 n530)), (fun k n39 n40 n41 => (hFq1 k n39 n40 n41)), (fun k n0 => (hHq1 k n0)), ⟨trivial, trivial⟩⟩
    · skip
      refine pe_iload (j := 4) (by decide +kernel) rfl ?_
      refine pe_aload_n (j := 0) (by decide +kernel) rfl ?_
      refine pe_get (j := 34) (ci := 11) (n := 4) (by decide +kernel) (by decide +kernel) cd_o0 rfl ?_
      refine pe_get (j := 208) (ci := 7) (n := 2) (by decide +kernel) (by decide +kernel) cd_o33 rfl ?_
      have hr_f2_530 := cf_530 hIq1
      refine pz_icmp_lt (off := 5) (t := 29) (by decide +kernel) (by decide) rfl rfl rfl (fun h9 => ?_) (fun h9 => ?_)
      · skip
        refine pe_iload (j := 5) (by decide +kernel) rfl ?_
        have lw11 := zi_lo x5
        have uw11 := zi_hi x5
        refine pz_if_lt (off := 21) (t := 52) (by decide +kernel) (by decide) rfl rfl (fun h10 => ?_) (fun h10 => ?_)
        · skip
          refine pe_aload_n (j := 0) (by decide +kernel) rfl ?_
          refine pe_get (j := 34) (ci := 11) (n := 4) (by decide +kernel) (by decide +kernel) cd_o0 rfl ?_
          refine pe_iload (j := 4) (by decide +kernel) rfl ?_
          refine pe_iconstv (n := 0) (v := 0) (by decide +kernel) (by decide +kernel) ?_
          refine pi_V (j := 240) (mj := 84) (by decide +kernel) (cll_V (args := [.int 0, .int x4]) (n := 2) (by decide +kernel) rfl rfl cd_o33 (by decide +kernel) (Nat.le_of_ble_eq_true rfl) (Nat.le_of_ble_eq_true rfl)) ?_
          show pmE pg X pg_tyl pg_cl (d + 5) 84 0 [.ref 33, .int x4, .int 0] [] (cd f2 A3 R4 wr) _
          refine pe_aload_n (j := 0) (by decide +kernel) rfl ?_
          refine pe_get (j := 22) (ci := 7) (n := 4) (by decide +kernel) (by decide +kernel) cd_o33 rfl ?_
          refine pe_iload_n (j := 1) (by decide +kernel) rfl ?_
          refine pe_bipushv (n := 10) (v := 10) (by decide +kernel) (by decide +kernel) ?_
          refine pz_mul (by decide +kernel) rfl kz_10 (by omega) (by omega) (fun z12 hz12 => ?_)
          refine pe_iload_n (j := 2) (by decide +kernel) rfl ?_
          refine pz_add (by decide +kernel) hz12 kz_0 (by omega) (by omega) (fun z13 hz13 => ?_)
          clear hz12
          refine pz_iald (by decide +kernel) cd_a40 (cl_40 hIq1) hz13 (by omega) (by omega) (fun v14 ev14 => ?_)
          have rv14 : 0 ≤ v14.toInt ∧ v14.toInt ≤ 6 := ct1_m (ct_40 hIq1 ev14) (by omega)
          clear hz13
          refine pe_iret (by decide +kernel) rfl rfl ⟨rfl, rfl, ?_⟩
          show pmE pg X pg_tyl pg_cl (d + 6) 120 62 [.ref 0, .int x1, .int x2, .int x3, .int x4, .int x5, pm_dead] [.int v14] (cd f2 A3 R4 wr) _
          refine pe_istore (j := 6) (ls' := [.ref 0, .int x1, .int x2, .int x3, .int x4, .int x5, .int v14]) (by decide +kernel) (Nat.le_of_ble_eq_true rfl) rfl ?_
          refine pe_iload (j := 5) (by decide +kernel) rfl ?_
          refine pe_bipushv (n := 10) (v := 10) (by decide +kernel) (by decide +kernel) ?_
          refine pz_icmp_lt (off := 13) (t := 81) (by decide +kernel) (by decide) rfl rfl kz_10 (fun h15 => ?_) (fun h15 => by omega)
          refine pe_iconstv (n := (-1)) (v := (-1)) (by decide +kernel) (by decide +kernel) ?_
          exact pe_iret (by decide +kernel) rfl rfl ⟨f2, A3, R4, (-1), rfl, hIq1, (fun k n529 n530 => (hGq1 k n529 n530)), (fun k n39 n40 n41 => (hFq1 k n39 n40 n41)), (fun k n0 => (hHq1 k n0)), ⟨trivial, trivial⟩⟩
        · skip
          refine pe_iload (j := 5) (by decide +kernel) rfl ?_
          refine pe_iconstv (n := 3) (v := 3) (by decide +kernel) (by decide +kernel) ?_
          refine pz_icmp_gt (off := 15) (t := 52) (by decide +kernel) (by decide) rfl rfl kz_3 (fun h16 => ?_) (fun h16 => ?_)
          · skip
            refine pe_aload_n (j := 0) (by decide +kernel) rfl ?_
            refine pe_get (j := 34) (ci := 11) (n := 4) (by decide +kernel) (by decide +kernel) cd_o0 rfl ?_
            refine pe_iload (j := 4) (by decide +kernel) rfl ?_
            refine pe_iconstv (n := 0) (v := 0) (by decide +kernel) (by decide +kernel) ?_
            refine pi_V (j := 240) (mj := 84) (by decide +kernel) (cll_V (args := [.int 0, .int x4]) (n := 2) (by decide +kernel) rfl rfl cd_o33 (by decide +kernel) (Nat.le_of_ble_eq_true rfl) (Nat.le_of_ble_eq_true rfl)) ?_
            show pmE pg X pg_tyl pg_cl (d + 5) 84 0 [.ref 33, .int x4, .int 0] [] (cd f2 A3 R4 wr) _
            refine pe_aload_n (j := 0) (by decide +kernel) rfl ?_
            refine pe_get (j := 22) (ci := 7) (n := 4) (by decide +kernel) (by decide +kernel) cd_o33 rfl ?_
            refine pe_iload_n (j := 1) (by decide +kernel) rfl ?_
            refine pe_bipushv (n := 10) (v := 10) (by decide +kernel) (by decide +kernel) ?_
            refine pz_mul (by decide +kernel) rfl kz_10 (by omega) (by omega) (fun z17 hz17 => ?_)
            refine pe_iload_n (j := 2) (by decide +kernel) rfl ?_
            refine pz_add (by decide +kernel) hz17 kz_0 (by omega) (by omega) (fun z18 hz18 => ?_)
            clear hz17
            refine pz_iald (by decide +kernel) cd_a40 (cl_40 hIq1) hz18 (by omega) (by omega) (fun v19 ev19 => ?_)
            have rv19 : 0 ≤ v19.toInt ∧ v19.toInt ≤ 6 := ct1_m (ct_40 hIq1 ev19) (by omega)
            clear hz18
            refine pe_iret (by decide +kernel) rfl rfl ⟨rfl, rfl, ?_⟩
            show pmE pg X pg_tyl pg_cl (d + 6) 120 62 [.ref 0, .int x1, .int x2, .int x3, .int x4, .int x5, pm_dead] [.int v19] (cd f2 A3 R4 wr) _
            refine pe_istore (j := 6) (ls' := [.ref 0, .int x1, .int x2, .int x3, .int x4, .int x5, .int v19]) (by decide +kernel) (Nat.le_of_ble_eq_true rfl) rfl ?_
            refine pe_iload (j := 5) (by decide +kernel) rfl ?_
            refine pe_bipushv (n := 10) (v := 10) (by decide +kernel) (by decide +kernel) ?_
            refine pz_icmp_lt (off := 13) (t := 81) (by decide +kernel) (by decide) rfl rfl kz_10 (fun h20 => ?_) (fun h20 => ?_)
            · skip
              refine pe_iconstv (n := (-1)) (v := (-1)) (by decide +kernel) (by decide +kernel) ?_
              exact pe_iret (by decide +kernel) rfl rfl ⟨f2, A3, R4, (-1), rfl, hIq1, (fun k n529 n530 => (hGq1 k n529 n530)), (fun k n39 n40 n41 => (hFq1 k n39 n40 n41)), (fun k n0 => (hHq1 k n0)), ⟨trivial, trivial⟩⟩
            · skip
              refine pe_iload (j := 5) (by decide +kernel) rfl ?_
              refine pe_bipushv (n := 10) (v := 10) (by decide +kernel) (by decide +kernel) ?_
              refine pe_iload (j := 6) (by decide +kernel) rfl ?_
              refine pz_add (by decide +kernel) kz_10 rfl (by omega) (by omega) (fun z21 hz21 => ?_)
              refine pz_icmp_lt (off := 5) (t := 83) (by decide +kernel) (by decide) rfl rfl hz21 (fun h22 => ?_) (fun h22 => ?_)
              · skip
                clear hz21
                refine pe_aload_n (j := 0) (by decide +kernel) rfl ?_
                refine pe_get (j := 34) (ci := 11) (n := 4) (by decide +kernel) (by decide +kernel) cd_o0 rfl ?_
                refine pe_iload (j := 4) (by decide +kernel) rfl ?_
                refine pe_iconstv (n := 4) (v := 4) (by decide +kernel) (by decide +kernel) ?_
                refine pe_iload (j := 5) (by decide +kernel) rfl ?_
                refine pz_add (by decide +kernel) kz_4 rfl (by omega) (by omega) (fun z23 hz23 => ?_)
                refine pe_bipushv (n := 10) (v := 10) (by decide +kernel) (by decide +kernel) ?_
                refine pz_sub (by decide +kernel) hz23 kz_10 (by omega) (by omega) (fun z24 hz24 => ?_)
                clear hz23
                refine pi_V (j := 240) (mj := 84) (by decide +kernel) (cll_V (args := [.int z24, .int x4]) (n := 2) (by decide +kernel) rfl rfl cd_o33 (by decide +kernel) (Nat.le_of_ble_eq_true rfl) (Nat.le_of_ble_eq_true rfl)) ?_
                show pmE pg X pg_tyl pg_cl (d + 5) 84 0 [.ref 33, .int x4, .int z24] [] (cd f2 A3 R4 wr) _
                refine pe_aload_n (j := 0) (by decide +kernel) rfl ?_
                refine pe_get (j := 22) (ci := 7) (n := 4) (by decide +kernel) (by decide +kernel) cd_o33 rfl ?_
                refine pe_iload_n (j := 1) (by decide +kernel) rfl ?_
                refine pe_bipushv (n := 10) (v := 10) (by decide +kernel) (by decide +kernel) ?_
                refine pz_mul (by decide +kernel) rfl kz_10 (by omega) (by omega) (fun z25 hz25 => ?_)
                refine pe_iload_n (j := 2) (by decide +kernel) rfl ?_
                refine pz_add (by decide +kernel) hz25 hz24 (by omega) (by omega) (fun z26 hz26 => ?_)
                clear hz25
                refine pz_iald (by decide +kernel) cd_a40 (cl_40 hIq1) hz26 (by omega) (by omega) (fun v27 ev27 => ?_)
                have rv27 : 0 ≤ v27.toInt ∧ v27.toInt ≤ 8 := ct1_w (ct_40 hIq1 ev27) (by omega)
                clear hz26
                refine pe_iret (by decide +kernel) rfl rfl ⟨rfl, rfl, ?_⟩
                show pmE pg X pg_tyl pg_cl (d + 6) 120 99 [.ref 0, .int x1, .int x2, .int x3, .int x4, .int x5, .int v19] [.int v27] (cd f2 A3 R4 wr) _
                exact pe_iret (by decide +kernel) rfl rfl ⟨f2, A3, R4, v27, rfl, hIq1, (fun k n529 n530 => (hGq1 k n529 n530)), (fun k n39 n40 n41 => (hFq1 k n39 n40 n41)), (fun k n0 => (hHq1 k n0)), ⟨trivial, trivial⟩⟩
              · skip
                clear hz21
                refine pe_iconstv (n := (-1)) (v := (-1)) (by decide +kernel) (by decide +kernel) ?_
                exact pe_iret (by decide +kernel) rfl rfl ⟨f2, A3, R4, (-1), rfl, hIq1, (fun k n529 n530 => (hGq1 k n529 n530)), (fun k n39 n40 n41 => (hFq1 k n39 n40 n41)), (fun k n0 => (hHq1 k n0)), ⟨trivial, trivial⟩⟩
          · skip
            refine pe_aload_n (j := 0) (by decide +kernel) rfl ?_
            refine pe_get (j := 34) (ci := 11) (n := 4) (by decide +kernel) (by decide +kernel) cd_o0 rfl ?_
            refine pe_iload (j := 4) (by decide +kernel) rfl ?_
            refine pe_iload (j := 5) (by decide +kernel) rfl ?_
            refine pi_V (j := 240) (mj := 84) (by decide +kernel) (cll_V (args := [.int x5, .int x4]) (n := 2) (by decide +kernel) rfl rfl cd_o33 (by decide +kernel) (Nat.le_of_ble_eq_true rfl) (Nat.le_of_ble_eq_true rfl)) ?_
            show pmE pg X pg_tyl pg_cl (d + 5) 84 0 [.ref 33, .int x4, .int x5] [] (cd f2 A3 R4 wr) _
            refine pe_aload_n (j := 0) (by decide +kernel) rfl ?_
            refine pe_get (j := 22) (ci := 7) (n := 4) (by decide +kernel) (by decide +kernel) cd_o33 rfl ?_
            refine pe_iload_n (j := 1) (by decide +kernel) rfl ?_
            refine pe_bipushv (n := 10) (v := 10) (by decide +kernel) (by decide +kernel) ?_
            refine pz_mul (by decide +kernel) rfl kz_10 (by omega) (by omega) (fun z28 hz28 => ?_)
            refine pe_iload_n (j := 2) (by decide +kernel) rfl ?_
            refine pz_add (by decide +kernel) hz28 rfl (by omega) (by omega) (fun z29 hz29 => ?_)
            clear hz28
            refine pz_iald (by decide +kernel) cd_a40 (cl_40 hIq1) hz29 (by omega) (by omega) (fun v30 ev30 => ?_)
            clear hz29
            refine pe_iret (by decide +kernel) rfl rfl ⟨rfl, rfl, ?_⟩
            show pmE pg X pg_tyl pg_cl (d + 6) 120 51 [.ref 0, .int x1, .int x2, .int x3, .int x4, .int x5, pm_dead] [.int v30] (cd f2 A3 R4 wr) _
            exact pe_iret (by decide +kernel) rfl rfl ⟨f2, A3, R4, v30, rfl, hIq1, (fun k n529 n530 => (hGq1 k n529 n530)), (fun k n39 n40 n41 => (hFq1 k n39 n40 n41)), (fun k n0 => (hHq1 k n0)), ⟨trivial, trivial⟩⟩
      · skip
        refine pe_iconstv (n := (-1)) (v := (-1)) (by decide +kernel) (by decide +kernel) ?_
        exact pe_iret (by decide +kernel) rfl rfl ⟨f2, A3, R4, (-1), rfl, hIq1, (fun k n529 n530 => (hGq1 k n529 n530)), (fun k n39 n40 n41 => (hFq1 k n39 n40 n41)), (fun k n0 => (hHq1 k n0)), ⟨trivial, trivial⟩⟩
set_option maxRecDepth 100000 in
set_option maxHeartbeats 8000000 in
theorem CM_121 {X : pm_X} {d : Nat} {wr : pm_W} {f : Nat → Int32} {A : Nat → List Int32} {R : Nat → Value} {x1 x2 x3 x4 x5 : Int32} (hX : XO X) (hI : CI f A R) : pmE pg X pg_tyl pg_cl (d + 7) 121 0 (pm_ent (pm_max pg 121) [.ref 0, .int x1, .int x2, .int x3, .int x4, .int x5]) [] (cd f A R wr) (fun q => ∃ (f' : Nat → Int32) (A' : Nat → List Int32) (R' : Nat → Value) (r : Int32), q = (some (.int r), cd f' A' R' wr, 0, 0) ∧ CI f' A' R' ∧ (∀ k : Nat, k ≠ 529 → k ≠ 530 → f' k = f k) ∧ (∀ k : Nat, k ≠ 39 → k ≠ 40 → k ≠ 41 → A' k = A k) ∧ (∀ k : Nat, k ≠ 0 → R' k = R k) ∧ ((True ∧ True))) := by
  show pmE pg X pg_tyl pg_cl (d + 7) 121 0 [.ref 0, .int x1, .int x2, .int x3, .int x4, .int x5] [] (cd f A R wr) _
  refine pe_aload_n (j := 0) (by decide +kernel) rfl ?_
  refine pe_iload_n (j := 1) (by decide +kernel) rfl ?_
  refine pe_iload_n (j := 2) (by decide +kernel) rfl ?_
  refine pe_iload_n (j := 3) (by decide +kernel) rfl ?_
  refine pe_iload (j := 4) (by decide +kernel) rfl ?_
  refine pz_callV (j := 192) (mj := 101) (by decide +kernel) (cll_V (args := [.int x4, .int x3, .int x2, .int x1]) (n := 4) (by decide +kernel) rfl rfl cd_o0 (by decide +kernel) (Nat.le_of_ble_eq_true rfl) (Nat.le_of_ble_eq_true rfl)) (CM_101 hX hI) (fun q1a q1b q1c q1d hqq1 => ?_)
  obtain ⟨f2, A3, R4, rq1, eq1, hIq1, hGq1, hFq1, hHq1, kq1⟩ := hqq1
  cases eq1
  refine ⟨rfl, rfl, ?_⟩
  rcases kq1 with kq1 | kq1
  · skip
    obtain ⟨erq1, kq1⟩ := kq1
    subst erq1
    show pmE pg X pg_tyl pg_cl (d + 7) 121 9 [.ref 0, .int x1, .int x2, .int x3, .int x4, .int x5] [.int 0] (cd f2 A3 R4 wr) _
    refine pz_if_ne (off := 5) (t := 14) (by decide +kernel) (by decide) rfl kz_0 (fun h5 => by omega) (fun h5 => ?_)
    refine pe_iconstv (n := (-1)) (v := (-1)) (by decide +kernel) (by decide +kernel) ?_
    exact pe_iret (by decide +kernel) rfl rfl ⟨f2, A3, R4, (-1), rfl, hIq1, (fun k n529 n530 => (hGq1 k n529 n530)), (fun k n39 n40 n41 => (hFq1 k n39 n40 n41)), (fun k n0 => (hHq1 k n0)), ⟨trivial, trivial⟩⟩
  · skip
    obtain ⟨erq1, kq1⟩ := kq1
    subst erq1
    obtain ⟨⟨v6, hv6, hR0q1⟩, kq1⟩ := kq1
    have bv6 := VV_b hv6
    show pmE pg X pg_tyl pg_cl (d + 7) 121 9 [.ref 0, .int x1, .int x2, .int x3, .int x4, .int x5] [.int 1] (cd f2 A3 R4 wr) _
    refine pz_if_ne (off := 5) (t := 14) (by decide +kernel) (by decide) rfl kz_1 (fun h6 => ?_) (fun h6 => by omega)
    refine pe_iload (j := 5) (by decide +kernel) rfl ?_
    have lw8 := zi_lo x5
    have uw8 := zi_hi x5
    refine pz_if_eq (off := 15) (t := 31) (by decide +kernel) (by decide) rfl rfl (fun h7 => ?_) (fun h7 => ?_)
    · skip
      refine pe_aload_n (j := 0) (by decide +kernel) rfl ?_
      refine pe_get (j := 34) (ci := 11) (n := 4) (by decide +kernel) (by decide +kernel) cd_o0 rfl ?_
      refine pe_iload (j := 4) (by decide +kernel) rfl ?_
      refine pz_callV (j := 246) (mj := 123) (by decide +kernel) (cll_V (args := [.int x4]) (n := 1) (by decide +kernel) rfl rfl cd_o33 (by decide +kernel) (Nat.le_of_ble_eq_true rfl) (Nat.le_of_ble_eq_true rfl)) (CM_123 hX hIq1) (fun q9a q9b q9c q9d hqq9 => ?_)
      obtain ⟨rq9, eq9, kq9⟩ := hqq9
      cases eq9
      refine ⟨rfl, rfl, ?_⟩
      show pmE pg X pg_tyl pg_cl (d + 7) 121 40 [.ref 0, .int x1, .int x2, .int x3, .int x4, .int x5] [.int rq9] (cd f2 A3 R4 wr) _
      exact pe_iret (by decide +kernel) rfl rfl ⟨f2, A3, R4, rq9, rfl, hIq1, (fun k n529 n530 => (hGq1 k n529 n530)), (fun k n39 n40 n41 => (hFq1 k n39 n40 n41)), (fun k n0 => (hHq1 k n0)), ⟨trivial, trivial⟩⟩
    · skip
      refine pe_aload_n (j := 0) (by decide +kernel) rfl ?_
      refine pe_get (j := 34) (ci := 11) (n := 4) (by decide +kernel) (by decide +kernel) cd_o0 rfl ?_
      refine pe_iload (j := 4) (by decide +kernel) rfl ?_
      refine pz_callV (j := 243) (mj := 122) (by decide +kernel) (cll_V (args := [.int x4]) (n := 1) (by decide +kernel) rfl rfl cd_o33 (by decide +kernel) (Nat.le_of_ble_eq_true rfl) (Nat.le_of_ble_eq_true rfl)) (CM_122 hX hIq1) (fun q10a q10b q10c q10d hqq10 => ?_)
      obtain ⟨rq10, eq10, kq10⟩ := hqq10
      cases eq10
      refine ⟨rfl, rfl, ?_⟩
      show pmE pg X pg_tyl pg_cl (d + 7) 121 28 [.ref 0, .int x1, .int x2, .int x3, .int x4, .int x5] [.int rq10] (cd f2 A3 R4 wr) _
      refine pe_goto (off := 12) (t := 40) (by decide +kernel) (by decide) rfl ?_
      exact pe_iret (by decide +kernel) rfl rfl ⟨f2, A3, R4, rq10, rfl, hIq1, (fun k n529 n530 => (hGq1 k n529 n530)), (fun k n39 n40 n41 => (hFq1 k n39 n40 n41)), (fun k n0 => (hHq1 k n0)), ⟨trivial, trivial⟩⟩
set_option maxRecDepth 100000 in
set_option maxHeartbeats 8000000 in
theorem CM_124 {X : pm_X} {d : Nat} {wr : pm_W} {f : Nat → Int32} {A : Nat → List Int32} {R : Nat → Value} {x1 x2 x3 x4 : Int32} (hX : XO X) (hI : CI f A R) : pmE pg X pg_tyl pg_cl (d + 6) 124 0 (pm_ent (pm_max pg 124) [.ref 0, .int x1, .int x2, .int x3, .int x4]) [] (cd f A R wr) (fun q => ∃ (f' : Nat → Int32) (A' : Nat → List Int32) (R' : Nat → Value) (r : Int32), q = (some (.int r), cd f' A' R' wr, 0, 0) ∧ CI f' A' R' ∧ (∀ k : Nat, k ≠ 529 → k ≠ 530 → f' k = f k) ∧ (∀ k : Nat, k ≠ 39 → k ≠ 40 → k ≠ 41 → A' k = A k) ∧ (∀ k : Nat, k ≠ 0 → R' k = R k) ∧ ((True ∧ True))) := by
  show pmE pg X pg_tyl pg_cl (d + 6) 124 0 [.ref 0, .int x1, .int x2, .int x3, .int x4] [] (cd f A R wr) _
  refine pe_iload (j := 4) (by decide +kernel) rfl ?_
  have lw2 := zi_lo x4
  have uw2 := zi_hi x4
  refine pz_if_lt (off := 21) (t := 23) (by decide +kernel) (by decide) rfl rfl (fun h1 => ?_) (fun h1 => ?_)
  · skip
    refine pe_iconstv (n := (-1)) (v := (-1)) (by decide +kernel) (by decide +kernel) ?_
    exact pe_iret (by decide +kernel) rfl rfl ⟨f, A, R, (-1), rfl, hI, (fun k n529 n530 => rfl), (fun k n39 n40 n41 => rfl), (fun k n0 => rfl), ⟨trivial, trivial⟩⟩
  · skip
    refine pe_iload (j := 4) (by decide +kernel) rfl ?_
    refine pe_sipushv (n := 999) (v := 999) (by decide +kernel) (by decide +kernel) ?_
    refine pz_icmp_gt (off := 13) (t := 23) (by decide +kernel) (by decide) rfl rfl kz_999 (fun h3 => ?_) (fun h3 => ?_)
    · skip
      refine pe_iconstv (n := (-1)) (v := (-1)) (by decide +kernel) (by decide +kernel) ?_
      exact pe_iret (by decide +kernel) rfl rfl ⟨f, A, R, (-1), rfl, hI, (fun k n529 n530 => rfl), (fun k n39 n40 n41 => rfl), (fun k n0 => rfl), ⟨trivial, trivial⟩⟩
    · skip
      refine pe_aload_n (j := 0) (by decide +kernel) rfl ?_
      refine pe_iload_n (j := 1) (by decide +kernel) rfl ?_
      refine pe_iload_n (j := 2) (by decide +kernel) rfl ?_
      refine pe_iload_n (j := 3) (by decide +kernel) rfl ?_
      refine pz_callV (j := 201) (mj := 98) (by decide +kernel) (cll_V (args := [.int x3, .int x2, .int x1]) (n := 3) (by decide +kernel) rfl rfl cd_o0 (by decide +kernel) (Nat.le_of_ble_eq_true rfl) (Nat.le_of_ble_eq_true rfl)) (CM_98 hX hI) (fun q4a q4b q4c q4d hqq4 => ?_)
      obtain ⟨f5, A6, R7, rq4, eq4, hIq4, hGq4, hFq4, hHq4, kq4⟩ := hqq4
      cases eq4
      refine ⟨rfl, rfl, ?_⟩
      rcases kq4 with kq4 | kq4
      · skip
        obtain ⟨erq4, kq4⟩ := kq4
        subst erq4
        show pmE pg X pg_tyl pg_cl (d + 6) 124 20 [.ref 0, .int x1, .int x2, .int x3, .int x4] [.int 0] (cd f5 A6 R7 wr) _
        refine pz_if_ne (off := 5) (t := 25) (by decide +kernel) (by decide) rfl kz_0 (fun h8 => by omega) (fun h8 => ?_)
        refine pe_iconstv (n := (-1)) (v := (-1)) (by decide +kernel) (by decide +kernel) ?_
        exact pe_iret (by decide +kernel) rfl rfl ⟨f5, A6, R7, (-1), rfl, hIq4, (fun k n529 n530 => (hGq4 k n529 n530)), (fun k n39 n40 n41 => (hFq4 k n39 n40 n41)), (fun k n0 => (hHq4 k n0)), ⟨trivial, trivial⟩⟩
      · skip
        obtain ⟨erq4, kq4⟩ := kq4
        subst erq4
        obtain ⟨⟨v17, hv17, hR0q4⟩, kq4⟩ := kq4
        have bv17 := VV_b hv17
        show pmE pg X pg_tyl pg_cl (d + 6) 124 20 [.ref 0, .int x1, .int x2, .int x3, .int x4] [.int 1] (cd f5 A6 R7 wr) _
        refine pz_if_ne (off := 5) (t := 25) (by decide +kernel) (by decide) rfl kz_1 (fun h9 => ?_) (fun h9 => by omega)
        refine pe_aload_n (j := 0) (by decide +kernel) rfl ?_
        refine pe_get (j := 34) (ci := 11) (n := 4) (by decide +kernel) (by decide +kernel) cd_o0 rfl ?_
        refine pe_iload (j := 4) (by decide +kernel) rfl ?_
        refine pz_callV (j := 249) (mj := 125) (by decide +kernel) (cll_V (args := [.int x4]) (n := 1) (by decide +kernel) rfl rfl cd_o33 (by decide +kernel) (Nat.le_of_ble_eq_true rfl) (Nat.le_of_ble_eq_true rfl)) (CM_125 hX hIq4) (fun q10a q10b q10c q10d hqq10 => ?_)
        obtain ⟨rq10, eq10, kq10⟩ := hqq10
        cases eq10
        refine ⟨rfl, rfl, ?_⟩
        show pmE pg X pg_tyl pg_cl (d + 6) 124 34 [.ref 0, .int x1, .int x2, .int x3, .int x4] [.int rq10] (cd f5 A6 R7 wr) _
        exact pe_iret (by decide +kernel) rfl rfl ⟨f5, A6, R7, rq10, rfl, hIq4, (fun k n529 n530 => (hGq4 k n529 n530)), (fun k n39 n40 n41 => (hFq4 k n39 n40 n41)), (fun k n0 => (hHq4 k n0)), ⟨trivial, trivial⟩⟩
set_option maxRecDepth 100000 in
set_option maxHeartbeats 8000000 in
theorem CM_126 {X : pm_X} {d : Nat} {wr : pm_W} {f : Nat → Int32} {A : Nat → List Int32} {R : Nat → Value} {x1 x2 x3 x4 x5 x6 : Int32} (hX : XO X) (hI : CI f A R) : pmE pg X pg_tyl pg_cl (d + 6) 126 0 (pm_ent (pm_max pg 126) [.ref 0, .int x1, .int x2, .int x3, .int x4, .int x5, .int x6]) [] (cd f A R wr) (fun q => ∃ (f' : Nat → Int32) (A' : Nat → List Int32) (R' : Nat → Value) (r : Int32), q = (some (.int r), cd f' A' R' wr, 0, 0) ∧ CI f' A' R' ∧ (∀ k : Nat, k ≠ 529 → k ≠ 530 → k ≠ 1360 → k ≠ 1361 → k ≠ 1362 → f' k = f k) ∧ (∀ k : Nat, k ≠ 39 → k ≠ 40 → k ≠ 41 → A' k = A k) ∧ (∀ k : Nat, k ≠ 0 → R' k = R k) ∧ ((True ∧ True))) := by
  show pmE pg X pg_tyl pg_cl (d + 6) 126 0 [.ref 0, .int x1, .int x2, .int x3, .int x4, .int x5, .int x6] [] (cd f A R wr) _
  refine pe_iload (j := 5) (by decide +kernel) rfl ?_
  have lw2 := zi_lo x5
  have uw2 := zi_hi x5
  refine pz_if_lt (off := 21) (t := 23) (by decide +kernel) (by decide) rfl rfl (fun h1 => ?_) (fun h1 => ?_)
  · skip
    refine pe_bipushv (n := (-2)) (v := (-2)) (by decide +kernel) (by decide +kernel) ?_
    exact pe_iret (by decide +kernel) rfl rfl ⟨f, A, R, (-2), rfl, hI, (fun k n529 n530 n1360 n1361 n1362 => rfl), (fun k n39 n40 n41 => rfl), (fun k n0 => rfl), ⟨trivial, trivial⟩⟩
  · skip
    refine pe_iload (j := 5) (by decide +kernel) rfl ?_
    refine pe_bipushv (n := 24) (v := 24) (by decide +kernel) (by decide +kernel) ?_
    refine pz_icmp_gt (off := 14) (t := 23) (by decide +kernel) (by decide) rfl rfl kz_24 (fun h3 => ?_) (fun h3 => ?_)
    · skip
      refine pe_bipushv (n := (-2)) (v := (-2)) (by decide +kernel) (by decide +kernel) ?_
      exact pe_iret (by decide +kernel) rfl rfl ⟨f, A, R, (-2), rfl, hI, (fun k n529 n530 n1360 n1361 n1362 => rfl), (fun k n39 n40 n41 => rfl), (fun k n0 => rfl), ⟨trivial, trivial⟩⟩
    · skip
      refine pe_iload (j := 6) (by decide +kernel) rfl ?_
      have lw5 := zi_lo x6
      have uw5 := zi_hi x6
      refine pz_if_lt (off := 9) (t := 23) (by decide +kernel) (by decide) rfl rfl (fun h4 => ?_) (fun h4 => ?_)
      · skip
        refine pe_bipushv (n := (-2)) (v := (-2)) (by decide +kernel) (by decide +kernel) ?_
        exact pe_iret (by decide +kernel) rfl rfl ⟨f, A, R, (-2), rfl, hI, (fun k n529 n530 n1360 n1361 n1362 => rfl), (fun k n39 n40 n41 => rfl), (fun k n0 => rfl), ⟨trivial, trivial⟩⟩
      · skip
        refine pe_iload (j := 6) (by decide +kernel) rfl ?_
        refine pe_iconstv (n := 3) (v := 3) (by decide +kernel) (by decide +kernel) ?_
        refine pz_icmp_le (off := 6) (t := 26) (by decide +kernel) (by decide) rfl rfl kz_3 (fun h6 => ?_) (fun h6 => ?_)
        · skip
          refine pe_aload_n (j := 0) (by decide +kernel) rfl ?_
          refine pe_iload_n (j := 1) (by decide +kernel) rfl ?_
          refine pe_iload_n (j := 2) (by decide +kernel) rfl ?_
          refine pe_iload_n (j := 3) (by decide +kernel) rfl ?_
          refine pz_callV (j := 201) (mj := 98) (by decide +kernel) (cll_V (args := [.int x3, .int x2, .int x1]) (n := 3) (by decide +kernel) rfl rfl cd_o0 (by decide +kernel) (Nat.le_of_ble_eq_true rfl) (Nat.le_of_ble_eq_true rfl)) (CM_98 hX hI) (fun q7a q7b q7c q7d hqq7 => ?_)
          obtain ⟨f8, A9, R10, rq7, eq7, hIq7, hGq7, hFq7, hHq7, kq7⟩ := hqq7
          cases eq7
          refine ⟨rfl, rfl, ?_⟩
          rcases kq7 with kq7 | kq7
          · skip
            obtain ⟨erq7, kq7⟩ := kq7
            subst erq7
            show pmE pg X pg_tyl pg_cl (d + 6) 126 33 [.ref 0, .int x1, .int x2, .int x3, .int x4, .int x5, .int x6] [.int 0] (cd f8 A9 R10 wr) _
            refine pz_if_ne (off := 6) (t := 39) (by decide +kernel) (by decide) rfl kz_0 (fun h11 => by omega) (fun h11 => ?_)
            refine pe_bipushv (n := (-2)) (v := (-2)) (by decide +kernel) (by decide +kernel) ?_
            exact pe_iret (by decide +kernel) rfl rfl ⟨f8, A9, R10, (-2), rfl, hIq7, (fun k n529 n530 n1360 n1361 n1362 => (hGq7 k n529 n530)), (fun k n39 n40 n41 => (hFq7 k n39 n40 n41)), (fun k n0 => (hHq7 k n0)), ⟨trivial, trivial⟩⟩
          · skip
            obtain ⟨erq7, kq7⟩ := kq7
            subst erq7
            obtain ⟨⟨v30, hv30, hR0q7⟩, kq7⟩ := kq7
            have bv30 := VV_b hv30
            show pmE pg X pg_tyl pg_cl (d + 6) 126 33 [.ref 0, .int x1, .int x2, .int x3, .int x4, .int x5, .int x6] [.int 1] (cd f8 A9 R10 wr) _
            refine pz_if_ne (off := 6) (t := 39) (by decide +kernel) (by decide) rfl kz_1 (fun h12 => ?_) (fun h12 => by omega)
            refine pe_aload_n (j := 0) (by decide +kernel) rfl ?_
            refine pe_get (j := 69) (ci := 11) (n := 9) (by decide +kernel) (by decide +kernel) cd_o0 rfl ?_
            refine pe_aload_n (j := 0) (by decide +kernel) rfl ?_
            refine pe_get (j := 34) (ci := 11) (n := 4) (by decide +kernel) (by decide +kernel) cd_o0 rfl ?_
            refine pe_iload (j := 4) (by decide +kernel) rfl ?_
            refine pe_iload (j := 5) (by decide +kernel) rfl ?_
            refine pz_callV (j := 252) (mj := 127) (by decide +kernel) (cll_V (args := [.int x5, .int x4, .ref 33]) (n := 3) (by decide +kernel) rfl rfl cd_o85 (by decide +kernel) (Nat.le_of_ble_eq_true rfl) (Nat.le_of_ble_eq_true rfl)) (CM_127 hX hIq7 hv30 (hR0q7) (by omega)) (fun q13a q13b q13c q13d hqq13 => ?_)
            obtain ⟨f14, A15, eq13, hIq13, hGq13, hFq13, kq13⟩ := hqq13
            cases eq13
            refine ⟨rfl, rfl, ?_⟩
            show pmE pg X pg_tyl pg_cl (d + 6) 126 54 [.ref 0, .int x1, .int x2, .int x3, .int x4, .int x5, .int x6] [] (cd f14 A15 R10 wr) _
            refine pe_iload (j := 6) (by decide +kernel) rfl ?_
            by_cases h16 : x6.toInt = 0
            · skip
              refine pe_tableIn (df := 52) (lo := 0) (hi := 2) (off := 28) (offs := #[28, 36, 44]) (t := 84) (by decide +kernel) (by omega) (by rw [h16]; rfl) (by decide) rfl ?_
              refine pe_aload_n (j := 0) (by decide +kernel) rfl ?_
              refine pe_get (j := 34) (ci := 11) (n := 4) (by decide +kernel) (by decide +kernel) cd_o0 rfl ?_
              refine pz_callV (j := 211) (mj := 104) (by decide +kernel) (cll_V (args := []) (n := 0) (by decide +kernel) rfl rfl cd_o33 (by decide +kernel) (Nat.le_of_ble_eq_true rfl) (Nat.le_of_ble_eq_true rfl)) (CM_104 hX hIq13) (fun q17a q17b q17c q17d hqq17 => ?_)
              obtain ⟨rq17, eq17, kq17⟩ := hqq17
              cases eq17
              refine ⟨rfl, rfl, ?_⟩
              show pmE pg X pg_tyl pg_cl (d + 6) 126 91 [.ref 0, .int x1, .int x2, .int x3, .int x4, .int x5, .int x6] [.int rq17] (cd f14 A15 R10 wr) _
              exact pe_iret (by decide +kernel) rfl rfl ⟨f14, A15, R10, rq17, rfl, hIq13, (fun k n529 n530 n1360 n1361 n1362 => ((hGq13 k n529 n1360 n1361 n1362)).trans ((hGq7 k n529 n530))), (fun k n39 n40 n41 => ((hFq13 k n39 n40)).trans ((hFq7 k n39 n40 n41))), (fun k n0 => (hHq7 k n0)), ⟨trivial, trivial⟩⟩
            · skip
              by_cases h18 : x6.toInt = 1
              · skip
                refine pe_tableIn (df := 52) (lo := 0) (hi := 2) (off := 36) (offs := #[28, 36, 44]) (t := 92) (by decide +kernel) (by omega) (by rw [h18]; rfl) (by decide) rfl ?_
                refine pe_aload_n (j := 0) (by decide +kernel) rfl ?_
                refine pe_get (j := 34) (ci := 11) (n := 4) (by decide +kernel) (by decide +kernel) cd_o0 rfl ?_
                refine pz_callV (j := 215) (mj := 105) (by decide +kernel) (cll_V (args := []) (n := 0) (by decide +kernel) rfl rfl cd_o33 (by decide +kernel) (Nat.le_of_ble_eq_true rfl) (Nat.le_of_ble_eq_true rfl)) (CM_105 hX hIq13) (fun q19a q19b q19c q19d hqq19 => ?_)
                obtain ⟨rq19, eq19, kq19⟩ := hqq19
                cases eq19
                refine ⟨rfl, rfl, ?_⟩
                show pmE pg X pg_tyl pg_cl (d + 6) 126 99 [.ref 0, .int x1, .int x2, .int x3, .int x4, .int x5, .int x6] [.int rq19] (cd f14 A15 R10 wr) _
                exact pe_iret (by decide +kernel) rfl rfl ⟨f14, A15, R10, rq19, rfl, hIq13, (fun k n529 n530 n1360 n1361 n1362 => ((hGq13 k n529 n1360 n1361 n1362)).trans ((hGq7 k n529 n530))), (fun k n39 n40 n41 => ((hFq13 k n39 n40)).trans ((hFq7 k n39 n40 n41))), (fun k n0 => (hHq7 k n0)), ⟨trivial, trivial⟩⟩
              · skip
                by_cases h20 : x6.toInt = 2
                · skip
                  refine pe_tableIn (df := 52) (lo := 0) (hi := 2) (off := 44) (offs := #[28, 36, 44]) (t := 100) (by decide +kernel) (by omega) (by rw [h20]; rfl) (by decide) rfl ?_
                  refine pe_aload_n (j := 0) (by decide +kernel) rfl ?_
                  refine pe_get (j := 69) (ci := 11) (n := 9) (by decide +kernel) (by decide +kernel) cd_o0 rfl ?_
                  refine pe_get (j := 256) (ci := 2) (n := 1) (by decide +kernel) (by decide +kernel) cd_o85 rfl ?_
                  exact pe_iret (by decide +kernel) rfl rfl ⟨f14, A15, R10, (f14 1361), rfl, hIq13, (fun k n529 n530 n1360 n1361 n1362 => ((hGq13 k n529 n1360 n1361 n1362)).trans ((hGq7 k n529 n530))), (fun k n39 n40 n41 => ((hFq13 k n39 n40)).trans ((hFq7 k n39 n40 n41))), (fun k n0 => (hHq7 k n0)), ⟨trivial, trivial⟩⟩
                · skip
                  refine pe_tableOut (df := 52) (lo := 0) (hi := 2) (offs := #[28, 36, 44]) (t := 108) (by decide +kernel) (by omega) (by decide) rfl ?_
                  refine pe_aload_n (j := 0) (by decide +kernel) rfl ?_
                  refine pe_get (j := 69) (ci := 11) (n := 9) (by decide +kernel) (by decide +kernel) cd_o0 rfl ?_
                  refine pe_get (j := 259) (ci := 2) (n := 2) (by decide +kernel) (by decide +kernel) cd_o85 rfl ?_
                  exact pe_iret (by decide +kernel) rfl rfl ⟨f14, A15, R10, (f14 1362), rfl, hIq13, (fun k n529 n530 n1360 n1361 n1362 => ((hGq13 k n529 n1360 n1361 n1362)).trans ((hGq7 k n529 n530))), (fun k n39 n40 n41 => ((hFq13 k n39 n40)).trans ((hFq7 k n39 n40 n41))), (fun k n0 => (hHq7 k n0)), ⟨trivial, trivial⟩⟩
        · skip
          refine pe_bipushv (n := (-2)) (v := (-2)) (by decide +kernel) (by decide +kernel) ?_
          exact pe_iret (by decide +kernel) rfl rfl ⟨f, A, R, (-2), rfl, hI, (fun k n529 n530 n1360 n1361 n1362 => rfl), (fun k n39 n40 n41 => rfl), (fun k n0 => rfl), ⟨trivial, trivial⟩⟩
set_option maxRecDepth 100000 in
set_option maxHeartbeats 8000000 in
theorem CM_130 {X : pm_X} {d : Nat} {wr : pm_W} {f : Nat → Int32} {A : Nat → List Int32} {R : Nat → Value} {x1 x2 x3 x4 x5 x6 : Int32} (hX : XO X) (hI : CI f A R) : pmE pg X pg_tyl pg_cl (d + 11) 130 0 (pm_ent (pm_max pg 130) [.ref 0, .int x1, .int x2, .int x3, .int x4, .int x5, .int x6]) [] (cd f A R wr) (fun q => ∃ (f' : Nat → Int32) (A' : Nat → List Int32) (R' : Nat → Value) (r : Int32), q = (some (.int r), cd f' A' R' wr, 0, 0) ∧ CI f' A' R' ∧ (∀ k : Nat, k ≠ 529 → k ≠ 530 → k ≠ 881 → k ≠ 882 → k ≠ 886 → k ≠ 887 → f' k = f k) ∧ (∀ k : Nat, k ≠ 39 → k ≠ 40 → k ≠ 41 → k ≠ 65 → k ≠ 66 → k ≠ 67 → A' k = A k) ∧ (∀ k : Nat, k ≠ 0 → k ≠ 2 → k ≠ 5 → R' k = R k) ∧ ((True ∧ True))) := by
  show pmE pg X pg_tyl pg_cl (d + 11) 130 0 [.ref 0, .int x1, .int x2, .int x3, .int x4, .int x5, .int x6] [] (cd f A R wr) _
  refine pe_aload_n (j := 0) (by decide +kernel) rfl ?_
  refine pe_iload_n (j := 1) (by decide +kernel) rfl ?_
  refine pe_iload_n (j := 2) (by decide +kernel) rfl ?_
  refine pe_iload_n (j := 3) (by decide +kernel) rfl ?_
  refine pe_iload (j := 4) (by decide +kernel) rfl ?_
  refine pe_iload (j := 5) (by decide +kernel) rfl ?_
  refine pz_callV (j := 262) (mj := 131) (by decide +kernel) (cll_V (args := [.int x5, .int x4, .int x3, .int x2, .int x1]) (n := 5) (by decide +kernel) rfl rfl cd_o0 (by decide +kernel) (Nat.le_of_ble_eq_true rfl) (Nat.le_of_ble_eq_true rfl)) (CM_131 hX hI) (fun q1a q1b q1c q1d hqq1 => ?_)
  obtain ⟨f2, A3, R4, rq1, eq1, hIq1, hGq1, hFq1, hHq1, kq1⟩ := hqq1
  cases eq1
  refine ⟨rfl, rfl, ?_⟩
  rcases kq1 with kq1 | kq1
  · skip
    obtain ⟨erq1, kq1⟩ := kq1
    subst erq1
    show pmE pg X pg_tyl pg_cl (d + 11) 130 11 [.ref 0, .int x1, .int x2, .int x3, .int x4, .int x5, .int x6] [.int 0] (cd f2 A3 R4 wr) _
    refine pz_if_ne (off := 5) (t := 16) (by decide +kernel) (by decide) rfl kz_0 (fun h5 => by omega) (fun h5 => ?_)
    refine pe_iconstv (n := (-1)) (v := (-1)) (by decide +kernel) (by decide +kernel) ?_
    exact pe_iret (by decide +kernel) rfl rfl ⟨f2, A3, R4, (-1), rfl, hIq1, (fun k n529 n530 n881 n882 n886 n887 => (hGq1 k n529 n530 n881 n882 n886 n887)), (fun k n39 n40 n41 n65 n66 n67 => (hFq1 k n39 n40 n41 n65 n66 n67)), (fun k n0 n2 n5 => (hHq1 k n0 n2 n5)), ⟨trivial, trivial⟩⟩
  · skip
    obtain ⟨erq1, kq1⟩ := kq1
    subst erq1
    obtain ⟨⟨v8, hv8, hR0q1⟩, kq1⟩ := kq1
    have bv8 := VV_b hv8
    show pmE pg X pg_tyl pg_cl (d + 11) 130 11 [.ref 0, .int x1, .int x2, .int x3, .int x4, .int x5, .int x6] [.int 1] (cd f2 A3 R4 wr) _
    refine pz_if_ne (off := 5) (t := 16) (by decide +kernel) (by decide) rfl kz_1 (fun h6 => ?_) (fun h6 => by omega)
    refine pe_iload (j := 6) (by decide +kernel) rfl ?_
    have lw8 := zi_lo x6
    have uw8 := zi_hi x6
    refine pz_if_ne (off := 11) (t := 29) (by decide +kernel) (by decide) rfl rfl (fun h7 => ?_) (fun h7 => ?_)
    · skip
      refine pe_iload (j := 6) (by decide +kernel) rfl ?_
      refine pe_iconstv (n := 1) (v := 1) (by decide +kernel) (by decide +kernel) ?_
      refine pz_icmp_ne (off := 11) (t := 43) (by decide +kernel) (by decide) rfl rfl kz_1 (fun h9 => ?_) (fun h9 => ?_)
      · skip
        refine pe_iload (j := 6) (by decide +kernel) rfl ?_
        refine pe_bipushv (n := 10) (v := 10) (by decide +kernel) (by decide +kernel) ?_
        refine pz_icmp_lt (off := 18) (t := 65) (by decide +kernel) (by decide) rfl rfl kz_10 (fun h10 => ?_) (fun h10 => ?_)
        · skip
          refine pe_iconstv (n := (-1)) (v := (-1)) (by decide +kernel) (by decide +kernel) ?_
          exact pe_iret (by decide +kernel) rfl rfl ⟨f2, A3, R4, (-1), rfl, hIq1, (fun k n529 n530 n881 n882 n886 n887 => (hGq1 k n529 n530 n881 n882 n886 n887)), (fun k n39 n40 n41 n65 n66 n67 => (hFq1 k n39 n40 n41 n65 n66 n67)), (fun k n0 n2 n5 => (hHq1 k n0 n2 n5)), ⟨trivial, trivial⟩⟩
        · skip
          refine pe_iload (j := 6) (by decide +kernel) rfl ?_
          refine pe_bipushv (n := 10) (v := 10) (by decide +kernel) (by decide +kernel) ?_
          refine pe_aload_n (j := 0) (by decide +kernel) rfl ?_
          refine pe_get (j := 48) (ci := 11) (n := 6) (by decide +kernel) (by decide +kernel) cd_o0 rfl ?_
          refine pe_get (j := 265) (ci := 6) (n := 6) (by decide +kernel) (by decide +kernel) cd_o55 rfl ?_
          have hr_f2_886 := cf_886 hIq1
          refine pz_add (by decide +kernel) kz_10 rfl (by omega) (by omega) (fun z11 hz11 => ?_)
          refine pz_icmp_lt (off := 5) (t := 67) (by decide +kernel) (by decide) rfl rfl hz11 (fun h12 => ?_) (fun h12 => ?_)
          · skip
            clear hz11
            refine pe_aload_n (j := 0) (by decide +kernel) rfl ?_
            refine pe_get (j := 48) (ci := 11) (n := 6) (by decide +kernel) (by decide +kernel) cd_o0 rfl ?_
            refine pe_get (j := 271) (ci := 6) (n := 5) (by decide +kernel) (by decide +kernel) cd_o55 rfl ?_
            refine pe_iload (j := 6) (by decide +kernel) rfl ?_
            refine pe_bipushv (n := 10) (v := 10) (by decide +kernel) (by decide +kernel) ?_
            refine pz_sub (by decide +kernel) rfl kz_10 (by omega) (by omega) (fun z13 hz13 => ?_)
            refine pz_iald (by decide +kernel) cd_a67 (cl_67 hIq1) hz13 (by omega) (by omega) (fun v14 ev14 => ?_)
            have rv14 : 0 ≤ v14.toInt ∧ v14.toInt ≤ 8 := ct_67 hIq1 ev14
            clear hz13
            exact pe_iret (by decide +kernel) rfl rfl ⟨f2, A3, R4, v14, rfl, hIq1, (fun k n529 n530 n881 n882 n886 n887 => (hGq1 k n529 n530 n881 n882 n886 n887)), (fun k n39 n40 n41 n65 n66 n67 => (hFq1 k n39 n40 n41 n65 n66 n67)), (fun k n0 n2 n5 => (hHq1 k n0 n2 n5)), ⟨trivial, trivial⟩⟩
          · skip
            clear hz11
            refine pe_iconstv (n := (-1)) (v := (-1)) (by decide +kernel) (by decide +kernel) ?_
            exact pe_iret (by decide +kernel) rfl rfl ⟨f2, A3, R4, (-1), rfl, hIq1, (fun k n529 n530 n881 n882 n886 n887 => (hGq1 k n529 n530 n881 n882 n886 n887)), (fun k n39 n40 n41 n65 n66 n67 => (hFq1 k n39 n40 n41 n65 n66 n67)), (fun k n0 n2 n5 => (hHq1 k n0 n2 n5)), ⟨trivial, trivial⟩⟩
      · skip
        refine pe_aload_n (j := 0) (by decide +kernel) rfl ?_
        refine pe_get (j := 48) (ci := 11) (n := 6) (by decide +kernel) (by decide +kernel) cd_o0 rfl ?_
        refine pe_get (j := 268) (ci := 6) (n := 7) (by decide +kernel) (by decide +kernel) cd_o55 rfl ?_
        exact pe_iret (by decide +kernel) rfl rfl ⟨f2, A3, R4, (f2 887), rfl, hIq1, (fun k n529 n530 n881 n882 n886 n887 => (hGq1 k n529 n530 n881 n882 n886 n887)), (fun k n39 n40 n41 n65 n66 n67 => (hFq1 k n39 n40 n41 n65 n66 n67)), (fun k n0 n2 n5 => (hHq1 k n0 n2 n5)), ⟨trivial, trivial⟩⟩
    · skip
      refine pe_aload_n (j := 0) (by decide +kernel) rfl ?_
      refine pe_get (j := 48) (ci := 11) (n := 6) (by decide +kernel) (by decide +kernel) cd_o0 rfl ?_
      refine pe_get (j := 265) (ci := 6) (n := 6) (by decide +kernel) (by decide +kernel) cd_o55 rfl ?_
      have hr_f2_886 := cf_886 hIq1
      exact pe_iret (by decide +kernel) rfl rfl ⟨f2, A3, R4, (f2 886), rfl, hIq1, (fun k n529 n530 n881 n882 n886 n887 => (hGq1 k n529 n530 n881 n882 n886 n887)), (fun k n39 n40 n41 n65 n66 n67 => (hFq1 k n39 n40 n41 n65 n66 n67)), (fun k n0 n2 n5 => (hHq1 k n0 n2 n5)), ⟨trivial, trivial⟩⟩
set_option maxRecDepth 100000 in
set_option maxHeartbeats 8000000 in
theorem CM_139 {X : pm_X} {d : Nat} {wr : pm_W} {f : Nat → Int32} {A : Nat → List Int32} {R : Nat → Value} {x1 x2 x3 x4 x5 x6 : Int32} (hX : XO X) (hI : CI f A R) : pmE pg X pg_tyl pg_cl (d + 11) 139 0 (pm_ent (pm_max pg 139) [.ref 0, .int x1, .int x2, .int x3, .int x4, .int x5, .int x6]) [] (cd f A R wr) (fun q => ∃ (f' : Nat → Int32) (A' : Nat → List Int32) (R' : Nat → Value) (l : Int64), q = (some (.long l), cd f' A' R' wr, 0, 0) ∧ CI f' A' R' ∧ (∀ k : Nat, k ≠ 529 → k ≠ 530 → k ≠ 881 → k ≠ 882 → k ≠ 886 → k ≠ 887 → f' k = f k) ∧ (∀ k : Nat, k ≠ 39 → k ≠ 40 → k ≠ 41 → k ≠ 65 → k ≠ 66 → k ≠ 67 → A' k = A k) ∧ (∀ k : Nat, k ≠ 0 → k ≠ 2 → k ≠ 5 → R' k = R k) ∧ ((True))) := by
  show pmE pg X pg_tyl pg_cl (d + 11) 139 0 [.ref 0, .int x1, .int x2, .int x3, .int x4, .int x5, .int x6] [] (cd f A R wr) _
  refine pe_aload_n (j := 0) (by decide +kernel) rfl ?_
  refine pe_iload_n (j := 1) (by decide +kernel) rfl ?_
  refine pe_iload_n (j := 2) (by decide +kernel) rfl ?_
  refine pe_iload_n (j := 3) (by decide +kernel) rfl ?_
  refine pe_iload (j := 4) (by decide +kernel) rfl ?_
  refine pe_iload (j := 5) (by decide +kernel) rfl ?_
  refine pz_callV (j := 262) (mj := 131) (by decide +kernel) (cll_V (args := [.int x5, .int x4, .int x3, .int x2, .int x1]) (n := 5) (by decide +kernel) rfl rfl cd_o0 (by decide +kernel) (Nat.le_of_ble_eq_true rfl) (Nat.le_of_ble_eq_true rfl)) (CM_131 hX hI) (fun q1a q1b q1c q1d hqq1 => ?_)
  obtain ⟨f2, A3, R4, rq1, eq1, hIq1, hGq1, hFq1, hHq1, kq1⟩ := hqq1
  cases eq1
  refine ⟨rfl, rfl, ?_⟩
  rcases kq1 with kq1 | kq1
  · skip
    obtain ⟨erq1, kq1⟩ := kq1
    subst erq1
    show pmE pg X pg_tyl pg_cl (d + 11) 139 11 [.ref 0, .int x1, .int x2, .int x3, .int x4, .int x5, .int x6] [.int 0] (cd f2 A3 R4 wr) _
    refine pz_if_ne (off := 7) (t := 18) (by decide +kernel) (by decide) rfl kz_0 (fun h5 => by omega) (fun h5 => ?_)
    refine pw_ldc2 (j := 274) (v := (-1)) (by decide +kernel) (by decide +kernel) (fun l6 => ?_)
    exact pe_lret (by decide +kernel) rfl ⟨f2, A3, R4, l6, rfl, hIq1, (fun k n529 n530 n881 n882 n886 n887 => (hGq1 k n529 n530 n881 n882 n886 n887)), (fun k n39 n40 n41 n65 n66 n67 => (hFq1 k n39 n40 n41 n65 n66 n67)), (fun k n0 n2 n5 => (hHq1 k n0 n2 n5)), trivial⟩
  · skip
    obtain ⟨erq1, kq1⟩ := kq1
    subst erq1
    obtain ⟨⟨v8, hv8, hR0q1⟩, kq1⟩ := kq1
    have bv8 := VV_b hv8
    show pmE pg X pg_tyl pg_cl (d + 11) 139 11 [.ref 0, .int x1, .int x2, .int x3, .int x4, .int x5, .int x6] [.int 1] (cd f2 A3 R4 wr) _
    refine pz_if_ne (off := 7) (t := 18) (by decide +kernel) (by decide) rfl kz_1 (fun h7 => ?_) (fun h7 => by omega)
    refine pe_iload (j := 6) (by decide +kernel) rfl ?_
    have lw9 := zi_lo x6
    have uw9 := zi_hi x6
    refine pz_if_eq (off := 16) (t := 36) (by decide +kernel) (by decide) rfl rfl (fun h8 => ?_) (fun h8 => ?_)
    · skip
      refine pe_aload_n (j := 0) (by decide +kernel) rfl ?_
      refine pe_get (j := 48) (ci := 11) (n := 6) (by decide +kernel) (by decide +kernel) cd_o0 rfl ?_
      refine pe_get (j := 280) (ci := 6) (n := 8) (by decide +kernel) (by decide +kernel) cd_o55 rfl ?_
      obtain ⟨l10, hl10⟩ := hIq1.2.2.2.1
      refine pe_topV (v := .long l10) (hl10) ?_
      exact pe_lret (by decide +kernel) rfl ⟨f2, A3, R4, l10, rfl, hIq1, (fun k n529 n530 n881 n882 n886 n887 => (hGq1 k n529 n530 n881 n882 n886 n887)), (fun k n39 n40 n41 n65 n66 n67 => (hFq1 k n39 n40 n41 n65 n66 n67)), (fun k n0 n2 n5 => (hHq1 k n0 n2 n5)), trivial⟩
    · skip
      refine pe_aload_n (j := 0) (by decide +kernel) rfl ?_
      refine pe_get (j := 48) (ci := 11) (n := 6) (by decide +kernel) (by decide +kernel) cd_o0 rfl ?_
      refine pe_get (j := 265) (ci := 6) (n := 6) (by decide +kernel) (by decide +kernel) cd_o55 rfl ?_
      have hr_f2_886 := cf_886 hIq1
      refine pz_callS (j := 276) (mj := 138) (by decide +kernel) (by decide +kernel) rfl (CM_138 hX hIq1) (fun q11a q11b q11c q11d hqq11 => ?_)
      obtain ⟨lq11, eq11, kq11⟩ := hqq11
      cases eq11
      refine ⟨rfl, rfl, ?_⟩
      show pmE pg X pg_tyl pg_cl (d + 11) 139 33 [.ref 0, .int x1, .int x2, .int x3, .int x4, .int x5, .int x6] [.long lq11] (cd f2 A3 R4 wr) _
      refine pe_goto (off := 10) (t := 43) (by decide +kernel) (by decide) rfl ?_
      exact pe_lret (by decide +kernel) rfl ⟨f2, A3, R4, lq11, rfl, hIq1, (fun k n529 n530 n881 n882 n886 n887 => (hGq1 k n529 n530 n881 n882 n886 n887)), (fun k n39 n40 n41 n65 n66 n67 => (hFq1 k n39 n40 n41 n65 n66 n67)), (fun k n0 n2 n5 => (hHq1 k n0 n2 n5)), trivial⟩
set_option maxRecDepth 100000 in
set_option maxHeartbeats 8000000 in
theorem CM_140 {X : pm_X} {d : Nat} {wr : pm_W} {f : Nat → Int32} {A : Nat → List Int32} {R : Nat → Value} {x1 x2 x3 x4 : Int32} (hX : XO X) (hI : CI f A R) : pmE pg X pg_tyl pg_cl (d + 7) 140 0 (pm_ent (pm_max pg 140) [.ref 0, .int x1, .int x2, .int x3, .int x4]) [] (cd f A R wr) (fun q => ∃ (f' : Nat → Int32) (A' : Nat → List Int32) (R' : Nat → Value) (r : Int32), q = (some (.int r), cd f' A' R' wr, 0, 0) ∧ CI f' A' R' ∧ (∀ k : Nat, k ≠ 529 → k ≠ 530 → f' k = f k) ∧ (∀ k : Nat, k ≠ 39 → k ≠ 40 → k ≠ 41 → A' k = A k) ∧ (∀ k : Nat, k ≠ 0 → R' k = R k) ∧ ((True ∧ True))) := by
  show pmE pg X pg_tyl pg_cl (d + 7) 140 0 [.ref 0, .int x1, .int x2, .int x3, .int x4, pm_dead, pm_dead] [] (cd f A R wr) _
  refine pe_aload_n (j := 0) (by decide +kernel) rfl ?_
  refine pe_iload_n (j := 1) (by decide +kernel) rfl ?_
  refine pe_iload_n (j := 2) (by decide +kernel) rfl ?_
  refine pe_iload_n (j := 3) (by decide +kernel) rfl ?_
  refine pe_iload (j := 4) (by decide +kernel) rfl ?_
  refine pz_callV (j := 284) (mj := 141) (by decide +kernel) (cll_V (args := [.int x4, .int x3, .int x2, .int x1]) (n := 4) (by decide +kernel) rfl rfl cd_o0 (by decide +kernel) (Nat.le_of_ble_eq_true rfl) (Nat.le_of_ble_eq_true rfl)) (CM_141 hX hI) (fun q1a q1b q1c q1d hqq1 => ?_)
  obtain ⟨f2, A3, R4, rq1, eq1, hIq1, hGq1, hFq1, hHq1, kq1⟩ := hqq1
  cases eq1
  refine ⟨rfl, rfl, ?_⟩
  rcases kq1 with kq1 | kq1
  · skip
    obtain ⟨erq1, kq1⟩ := kq1
    subst erq1
    show pmE pg X pg_tyl pg_cl (d + 7) 140 9 [.ref 0, .int x1, .int x2, .int x3, .int x4, pm_dead, pm_dead] [.int 0] (cd f2 A3 R4 wr) _
    refine pz_if_ne (off := 5) (t := 14) (by decide +kernel) (by decide) rfl kz_0 (fun h5 => by omega) (fun h5 => ?_)
    refine pe_iconstv (n := (-1)) (v := (-1)) (by decide +kernel) (by decide +kernel) ?_
    exact pe_iret (by decide +kernel) rfl rfl ⟨f2, A3, R4, (-1), rfl, hIq1, (fun k n529 n530 => (hGq1 k n529 n530)), (fun k n39 n40 n41 => (hFq1 k n39 n40 n41)), (fun k n0 => (hHq1 k n0)), ⟨trivial, trivial⟩⟩
  · skip
    obtain ⟨erq1, kq1⟩ := kq1
    subst erq1
    obtain ⟨⟨v6, hv6, hR0q1⟩, kq1⟩ := kq1
    have bv6 := VV_b hv6
    show pmE pg X pg_tyl pg_cl (d + 7) 140 9 [.ref 0, .int x1, .int x2, .int x3, .int x4, pm_dead, pm_dead] [.int 1] (cd f2 A3 R4 wr) _
    refine pz_if_ne (off := 5) (t := 14) (by decide +kernel) (by decide) rfl kz_1 (fun h6 => ?_) (fun h6 => by omega)
    refine pe_aload_n (j := 0) (by decide +kernel) rfl ?_
    refine pe_get (j := 34) (ci := 11) (n := 4) (by decide +kernel) (by decide +kernel) cd_o0 rfl ?_
    refine pe_get (j := 287) (ci := 7) (n := 0) (by decide +kernel) (by decide +kernel) cd_o33 rfl ?_
    refine pe_topV (v := .ref v6) (hR0q1) ?_
    refine pe_astore (j := 5) (ls' := [.ref 0, .int x1, .int x2, .int x3, .int x4, .ref v6, pm_dead]) (by decide +kernel) (Nat.le_of_ble_eq_true rfl) rfl ?_
    refine pe_aload_n (j := 0) (by decide +kernel) rfl ?_
    refine pe_get (j := 34) (ci := 11) (n := 4) (by decide +kernel) (by decide +kernel) cd_o0 rfl ?_
    refine pe_aload (j := 5) (by decide +kernel) rfl ?_
    refine pe_iload (j := 4) (by decide +kernel) rfl ?_
    refine pe_iconstv (n := 1) (v := 1) (by decide +kernel) (by decide +kernel) ?_
    refine pi_V (j := 145) (mj := 65) (by decide +kernel) (cll_V (args := [.int 1, .int x4]) (n := 2) (by decide +kernel) rfl rfl (cv_o hv6) (by decide +kernel) (Nat.le_of_ble_eq_true rfl) (Nat.le_of_ble_eq_true rfl)) ?_
    show pmE pg X pg_tyl pg_cl (d + 6) 65 0 [.ref v6, .int x4, .int 1] [] (cd f2 A3 R4 wr) _
    refine pe_aload_n (j := 0) (by decide +kernel) rfl ?_
    refine pe_get (j := 25) (ci := 9) (n := 6) (by decide +kernel) (by decide +kernel) (cv_o hv6) rfl ?_
    refine pe_iload_n (j := 1) (by decide +kernel) rfl ?_
    refine pe_iconstv (n := 4) (v := 4) (by decide +kernel) (by decide +kernel) ?_
    refine pz_mul (by decide +kernel) rfl kz_4 (by omega) (by omega) (fun z7 hz7 => ?_)
    refine pe_iload_n (j := 2) (by decide +kernel) rfl ?_
    refine pz_add (by decide +kernel) hz7 kz_1 (by omega) (by omega) (fun z8 hz8 => ?_)
    clear hz7
    refine pz_iald (by decide +kernel) (cv_a4 hv6) (cv_l4 hv6 hIq1) hz8 (by omega) (by omega) (fun v9 ev9 => ?_)
    have rv9 : 0 ≤ v9.toInt ∧ v9.toInt ≤ 8 := ct0_m (cv_t4 hv6 hIq1 ev9) (by omega)
    rw [show A3 (v6 + 4) = A (v6 + 4) from (hFq1 (v6 + 4) (by omega) (by omega) (by omega))] at ev9
    clear hz8
    refine pe_iret (by decide +kernel) rfl rfl ⟨rfl, rfl, ?_⟩
    show pmE pg X pg_tyl pg_cl (d + 7) 140 35 [.ref 0, .int x1, .int x2, .int x3, .int x4, .ref v6, pm_dead] [.int v9, .ref 33] (cd f2 A3 R4 wr) _
    refine pe_aload (j := 5) (by decide +kernel) rfl ?_
    refine pe_iload (j := 4) (by decide +kernel) rfl ?_
    refine pe_iconstv (n := 2) (v := 2) (by decide +kernel) (by decide +kernel) ?_
    refine pi_V (j := 145) (mj := 65) (by decide +kernel) (cll_V (args := [.int 2, .int x4]) (n := 2) (by decide +kernel) rfl rfl (cv_o hv6) (by decide +kernel) (Nat.le_of_ble_eq_true rfl) (Nat.le_of_ble_eq_true rfl)) ?_
    show pmE pg X pg_tyl pg_cl (d + 6) 65 0 [.ref v6, .int x4, .int 2] [] (cd f2 A3 R4 wr) _
    refine pe_aload_n (j := 0) (by decide +kernel) rfl ?_
    refine pe_get (j := 25) (ci := 9) (n := 6) (by decide +kernel) (by decide +kernel) (cv_o hv6) rfl ?_
    refine pe_iload_n (j := 1) (by decide +kernel) rfl ?_
    refine pe_iconstv (n := 4) (v := 4) (by decide +kernel) (by decide +kernel) ?_
    refine pz_mul (by decide +kernel) rfl kz_4 (by omega) (by omega) (fun z10 hz10 => ?_)
    refine pe_iload_n (j := 2) (by decide +kernel) rfl ?_
    refine pz_add (by decide +kernel) hz10 kz_2 (by omega) (by omega) (fun z11 hz11 => ?_)
    clear hz10
    refine pz_iald (by decide +kernel) (cv_a4 hv6) (cv_l4 hv6 hIq1) hz11 (by omega) (by omega) (fun v12 ev12 => ?_)
    rw [show A3 (v6 + 4) = A (v6 + 4) from (hFq1 (v6 + 4) (by omega) (by omega) (by omega))] at ev12
    clear hz11
    refine pe_iret (by decide +kernel) rfl rfl ⟨rfl, rfl, ?_⟩
    show pmE pg X pg_tyl pg_cl (d + 7) 140 43 [.ref 0, .int x1, .int x2, .int x3, .int x4, .ref v6, pm_dead] [.int v12, .int v9, .ref 33] (cd f2 A3 R4 wr) _
    refine pz_callV (j := 291) (mj := 142) (by decide +kernel) (cll_V (args := [.int v12, .int v9]) (n := 2) (by decide +kernel) rfl rfl cd_o33 (by decide +kernel) (Nat.le_of_ble_eq_true rfl) (Nat.le_of_ble_eq_true rfl)) (CM_142 hX hIq1 hv6 (hR0q1)) (fun q13a q13b q13c q13d hqq13 => ?_)
    obtain ⟨rq13, eq13, kq13⟩ := hqq13
    cases eq13
    refine ⟨rfl, rfl, ?_⟩
    show pmE pg X pg_tyl pg_cl (d + 7) 140 46 [.ref 0, .int x1, .int x2, .int x3, .int x4, .ref v6, pm_dead] [.int rq13] (cd f2 A3 R4 wr) _
    refine pe_istore (j := 6) (ls' := [.ref 0, .int x1, .int x2, .int x3, .int x4, .ref v6, .int rq13]) (by decide +kernel) (Nat.le_of_ble_eq_true rfl) rfl ?_
    refine pe_iload (j := 6) (by decide +kernel) rfl ?_
    refine pe_aload (j := 5) (by decide +kernel) rfl ?_
    refine pe_iload (j := 4) (by decide +kernel) rfl ?_
    refine pe_iconstv (n := 0) (v := 0) (by decide +kernel) (by decide +kernel) ?_
    refine pi_V (j := 145) (mj := 65) (by decide +kernel) (cll_V (args := [.int 0, .int x4]) (n := 2) (by decide +kernel) rfl rfl (cv_o hv6) (by decide +kernel) (Nat.le_of_ble_eq_true rfl) (Nat.le_of_ble_eq_true rfl)) ?_
    show pmE pg X pg_tyl pg_cl (d + 6) 65 0 [.ref v6, .int x4, .int 0] [] (cd f2 A3 R4 wr) _
    refine pe_aload_n (j := 0) (by decide +kernel) rfl ?_
    refine pe_get (j := 25) (ci := 9) (n := 6) (by decide +kernel) (by decide +kernel) (cv_o hv6) rfl ?_
    refine pe_iload_n (j := 1) (by decide +kernel) rfl ?_
    refine pe_iconstv (n := 4) (v := 4) (by decide +kernel) (by decide +kernel) ?_
    refine pz_mul (by decide +kernel) rfl kz_4 (by omega) (by omega) (fun z14 hz14 => ?_)
    refine pe_iload_n (j := 2) (by decide +kernel) rfl ?_
    refine pz_add (by decide +kernel) hz14 kz_0 (by omega) (by omega) (fun z15 hz15 => ?_)
    clear hz14
    refine pz_iald (by decide +kernel) (cv_a4 hv6) (cv_l4 hv6 hIq1) hz15 (by omega) (by omega) (fun v16 ev16 => ?_)
    have rv16 : 0 ≤ v16.toInt ∧ v16.toInt ≤ 8 := ct0_m (cv_t4 hv6 hIq1 ev16) (by omega)
    rw [show A3 (v6 + 4) = A (v6 + 4) from (hFq1 (v6 + 4) (by omega) (by omega) (by omega))] at ev16
    clear hz15
    refine pe_iret (by decide +kernel) rfl rfl ⟨rfl, rfl, ?_⟩
    show pmE pg X pg_tyl pg_cl (d + 7) 140 58 [.ref 0, .int x1, .int x2, .int x3, .int x4, .ref v6, .int rq13] [.int v16, .int rq13] (cd f2 A3 R4 wr) _
    refine pi_S (j := 294) (mj := 89) (by decide +kernel) (by decide +kernel) rfl ?_
    show pmE pg X pg_tyl pg_cl (d + 6) 89 0 [.int rq13, .int v16] [] (cd f2 A3 R4 wr) _
    refine pe_iload_n (j := 0) (by decide +kernel) rfl ?_
    refine pe_iload_n (j := 1) (by decide +kernel) rfl ?_
    refine pw_shr (by decide +kernel) (fun z17 => ?_)
    refine pe_iconstv (n := 1) (v := 1) (by decide +kernel) (by decide +kernel) ?_
    refine pz_and1 (by decide +kernel) (fun z18 hz18 => ?_)
    refine pz_if_eq (off := 7) (t := 12) (by decide +kernel) (by decide) rfl rfl (fun h19 => ?_) (fun h19 => ?_)
    · skip
      refine pe_iconstv (n := 0) (v := 0) (by decide +kernel) (by decide +kernel) ?_
      refine pe_iret (by decide +kernel) rfl rfl ⟨rfl, rfl, ?_⟩
      show pmE pg X pg_tyl pg_cl (d + 7) 140 61 [.ref 0, .int x1, .int x2, .int x3, .int x4, .ref v6, .int rq13] [.int 0] (cd f2 A3 R4 wr) _
      refine pz_if_eq (off := 7) (t := 68) (by decide +kernel) (by decide) rfl kz_0 (fun h20 => ?_) (fun h20 => by omega)
      refine pe_iload (j := 6) (by decide +kernel) rfl ?_
      exact pe_iret (by decide +kernel) rfl rfl ⟨f2, A3, R4, rq13, rfl, hIq1, (fun k n529 n530 => (hGq1 k n529 n530)), (fun k n39 n40 n41 => (hFq1 k n39 n40 n41)), (fun k n0 => (hHq1 k n0)), ⟨trivial, trivial⟩⟩
    · skip
      refine pe_iconstv (n := 1) (v := 1) (by decide +kernel) (by decide +kernel) ?_
      refine pe_goto (off := 4) (t := 13) (by decide +kernel) (by decide) rfl ?_
      refine pe_iret (by decide +kernel) rfl rfl ⟨rfl, rfl, ?_⟩
      show pmE pg X pg_tyl pg_cl (d + 7) 140 61 [.ref 0, .int x1, .int x2, .int x3, .int x4, .ref v6, .int rq13] [.int 1] (cd f2 A3 R4 wr) _
      refine pz_if_eq (off := 7) (t := 68) (by decide +kernel) (by decide) rfl kz_1 (fun h21 => by omega) (fun h21 => ?_)
      refine pe_iconstv (n := (-1)) (v := (-1)) (by decide +kernel) (by decide +kernel) ?_
      refine pe_goto (off := 5) (t := 70) (by decide +kernel) (by decide) rfl ?_
      exact pe_iret (by decide +kernel) rfl rfl ⟨f2, A3, R4, (-1), rfl, hIq1, (fun k n529 n530 => (hGq1 k n529 n530)), (fun k n39 n40 n41 => (hFq1 k n39 n40 n41)), (fun k n0 => (hHq1 k n0)), ⟨trivial, trivial⟩⟩
set_option maxRecDepth 100000 in
set_option maxHeartbeats 8000000 in
theorem CM_145 {X : pm_X} {d : Nat} {wr : pm_W} {f : Nat → Int32} {A : Nat → List Int32} {R : Nat → Value} {x1 x2 x3 x4 x5 : Int32} (hX : XO X) (hI : CI f A R) : pmE pg X pg_tyl pg_cl (d + 10) 145 0 (pm_ent (pm_max pg 145) [.ref 0, .int x1, .int x2, .int x3, .int x4, .int x5]) [] (cd f A R wr) (fun q => ∃ (f' : Nat → Int32) (A' : Nat → List Int32) (R' : Nat → Value) (r : Int32), q = (some (.int r), cd f' A' R' wr, 0, 0) ∧ CI f' A' R' ∧ (∀ k : Nat, k ≠ 529 → k ≠ 530 → k ≠ 881 → k ≠ 882 → k ≠ 886 → k ≠ 887 → f' k = f k) ∧ (∀ k : Nat, k ≠ 39 → k ≠ 40 → k ≠ 41 → k ≠ 65 → k ≠ 66 → k ≠ 67 → A' k = A k) ∧ (∀ k : Nat, k ≠ 0 → k ≠ 2 → k ≠ 5 → R' k = R k) ∧ ((True ∧ True))) := by
  show pmE pg X pg_tyl pg_cl (d + 10) 145 0 [.ref 0, .int x1, .int x2, .int x3, .int x4, .int x5] [] (cd f A R wr) _
  refine pe_aload_n (j := 0) (by decide +kernel) rfl ?_
  refine pe_iload_n (j := 1) (by decide +kernel) rfl ?_
  refine pe_iload_n (j := 2) (by decide +kernel) rfl ?_
  refine pe_iload_n (j := 3) (by decide +kernel) rfl ?_
  refine pe_iload (j := 4) (by decide +kernel) rfl ?_
  refine pz_callV (j := 284) (mj := 141) (by decide +kernel) (cll_V (args := [.int x4, .int x3, .int x2, .int x1]) (n := 4) (by decide +kernel) rfl rfl cd_o0 (by decide +kernel) (Nat.le_of_ble_eq_true rfl) (Nat.le_of_ble_eq_true rfl)) (CM_141 hX hI) (fun q1a q1b q1c q1d hqq1 => ?_)
  obtain ⟨f2, A3, R4, rq1, eq1, hIq1, hGq1, hFq1, hHq1, kq1⟩ := hqq1
  cases eq1
  refine ⟨rfl, rfl, ?_⟩
  rcases kq1 with kq1 | kq1
  · skip
    obtain ⟨erq1, kq1⟩ := kq1
    subst erq1
    show pmE pg X pg_tyl pg_cl (d + 10) 145 9 [.ref 0, .int x1, .int x2, .int x3, .int x4, .int x5] [.int 0] (cd f2 A3 R4 wr) _
    refine pz_if_eq (off := 18) (t := 27) (by decide +kernel) (by decide) rfl kz_0 (fun h5 => ?_) (fun h5 => by omega)
    refine pe_iconstv (n := (-1)) (v := (-1)) (by decide +kernel) (by decide +kernel) ?_
    exact pe_iret (by decide +kernel) rfl rfl ⟨f2, A3, R4, (-1), rfl, hIq1, (fun k n529 n530 n881 n882 n886 n887 => (hGq1 k n529 n530)), (fun k n39 n40 n41 n65 n66 n67 => (hFq1 k n39 n40 n41)), (fun k n0 n2 n5 => (hHq1 k n0)), ⟨trivial, trivial⟩⟩
  · skip
    obtain ⟨erq1, kq1⟩ := kq1
    subst erq1
    obtain ⟨⟨v6, hv6, hR0q1⟩, kq1⟩ := kq1
    have bv6 := VV_b hv6
    show pmE pg X pg_tyl pg_cl (d + 10) 145 9 [.ref 0, .int x1, .int x2, .int x3, .int x4, .int x5] [.int 1] (cd f2 A3 R4 wr) _
    refine pz_if_eq (off := 18) (t := 27) (by decide +kernel) (by decide) rfl kz_1 (fun h6 => by omega) (fun h6 => ?_)
    refine pe_aload_n (j := 0) (by decide +kernel) rfl ?_
    refine pe_get (j := 34) (ci := 11) (n := 4) (by decide +kernel) (by decide +kernel) cd_o0 rfl ?_
    refine pe_get (j := 287) (ci := 7) (n := 0) (by decide +kernel) (by decide +kernel) cd_o33 rfl ?_
    refine pe_topV (v := .ref v6) (hR0q1) ?_
    refine pe_iload (j := 5) (by decide +kernel) rfl ?_
    refine pi_V (j := 126) (mj := 61) (by decide +kernel) (cll_V (args := [.int x5]) (n := 1) (by decide +kernel) rfl rfl (cv_o hv6) (by decide +kernel) (Nat.le_of_ble_eq_true rfl) (Nat.le_of_ble_eq_true rfl)) ?_
    show pmE pg X pg_tyl pg_cl (d + 9) 61 0 [.ref v6, .int x5] [] (cd f2 A3 R4 wr) _
    refine pe_iload_n (j := 1) (by decide +kernel) rfl ?_
    have lw8 := zi_lo x5
    have uw8 := zi_hi x5
    refine pz_if_lt (off := 15) (t := 16) (by decide +kernel) (by decide) rfl rfl (fun h7 => ?_) (fun h7 => ?_)
    · skip
      refine pe_iconstv (n := 0) (v := 0) (by decide +kernel) (by decide +kernel) ?_
      refine pe_iret (by decide +kernel) rfl rfl ⟨rfl, rfl, ?_⟩
      show pmE pg X pg_tyl pg_cl (d + 10) 145 24 [.ref 0, .int x1, .int x2, .int x3, .int x4, .int x5] [.int 0] (cd f2 A3 R4 wr) _
      refine pz_if_ne (off := 5) (t := 29) (by decide +kernel) (by decide) rfl kz_0 (fun h9 => by omega) (fun h9 => ?_)
      refine pe_iconstv (n := (-1)) (v := (-1)) (by decide +kernel) (by decide +kernel) ?_
      exact pe_iret (by decide +kernel) rfl rfl ⟨f2, A3, R4, (-1), rfl, hIq1, (fun k n529 n530 n881 n882 n886 n887 => (hGq1 k n529 n530)), (fun k n39 n40 n41 n65 n66 n67 => (hFq1 k n39 n40 n41)), (fun k n0 n2 n5 => (hHq1 k n0)), ⟨trivial, trivial⟩⟩
    · skip
      refine pe_iload_n (j := 1) (by decide +kernel) rfl ?_
      refine pe_aload_n (j := 0) (by decide +kernel) rfl ?_
      refine pe_get (j := 9) (ci := 9) (n := 0) (by decide +kernel) (by decide +kernel) (cv_o hv6) rfl ?_
      have hr_f_16v6 := cv_people hv6 hI
      refine pe_top (v := (f (16 * v6))) ((hGq1 (16 * v6) (by omega) (by omega))) ?_
      refine pz_icmp_ge (off := 7) (t := 16) (by decide +kernel) (by decide) rfl rfl rfl (fun h10 => ?_) (fun h10 => ?_)
      · skip
        refine pe_iconstv (n := 0) (v := 0) (by decide +kernel) (by decide +kernel) ?_
        refine pe_iret (by decide +kernel) rfl rfl ⟨rfl, rfl, ?_⟩
        show pmE pg X pg_tyl pg_cl (d + 10) 145 24 [.ref 0, .int x1, .int x2, .int x3, .int x4, .int x5] [.int 0] (cd f2 A3 R4 wr) _
        refine pz_if_ne (off := 5) (t := 29) (by decide +kernel) (by decide) rfl kz_0 (fun h11 => by omega) (fun h11 => ?_)
        refine pe_iconstv (n := (-1)) (v := (-1)) (by decide +kernel) (by decide +kernel) ?_
        exact pe_iret (by decide +kernel) rfl rfl ⟨f2, A3, R4, (-1), rfl, hIq1, (fun k n529 n530 n881 n882 n886 n887 => (hGq1 k n529 n530)), (fun k n39 n40 n41 n65 n66 n67 => (hFq1 k n39 n40 n41)), (fun k n0 n2 n5 => (hHq1 k n0)), ⟨trivial, trivial⟩⟩
      · skip
        refine pe_iconstv (n := 1) (v := 1) (by decide +kernel) (by decide +kernel) ?_
        refine pe_goto (off := 4) (t := 17) (by decide +kernel) (by decide) rfl ?_
        refine pe_iret (by decide +kernel) rfl rfl ⟨rfl, rfl, ?_⟩
        show pmE pg X pg_tyl pg_cl (d + 10) 145 24 [.ref 0, .int x1, .int x2, .int x3, .int x4, .int x5] [.int 1] (cd f2 A3 R4 wr) _
        refine pz_if_ne (off := 5) (t := 29) (by decide +kernel) (by decide) rfl kz_1 (fun h12 => ?_) (fun h12 => by omega)
        refine pe_aload_n (j := 0) (by decide +kernel) rfl ?_
        refine pe_get (j := 48) (ci := 11) (n := 6) (by decide +kernel) (by decide +kernel) cd_o0 rfl ?_
        refine pe_aload_n (j := 0) (by decide +kernel) rfl ?_
        refine pe_get (j := 34) (ci := 11) (n := 4) (by decide +kernel) (by decide +kernel) cd_o0 rfl ?_
        refine pe_iload (j := 4) (by decide +kernel) rfl ?_
        refine pe_iload (j := 5) (by decide +kernel) rfl ?_
        refine pz_callV (j := 298) (mj := 146) (by decide +kernel) (cll_V (args := [.int x5, .int x4, .ref 33]) (n := 3) (by decide +kernel) rfl rfl cd_o55 (by decide +kernel) (Nat.le_of_ble_eq_true rfl) (Nat.le_of_ble_eq_true rfl)) (CM_146 hX hIq1 hv6 (hR0q1) (by omega) (by omega)) (fun q13a q13b q13c q13d hqq13 => ?_)
        obtain ⟨f14, A15, R16, rq13, eq13, hIq13, hGq13, hFq13, hHq13, kq13⟩ := hqq13
        cases eq13
        refine ⟨rfl, rfl, ?_⟩
        show pmE pg X pg_tyl pg_cl (d + 10) 145 44 [.ref 0, .int x1, .int x2, .int x3, .int x4, .int x5] [.int rq13] (cd f14 A15 R16 wr) _
        exact pe_iret (by decide +kernel) rfl rfl ⟨f14, A15, R16, rq13, rfl, hIq13, (fun k n529 n530 n881 n882 n886 n887 => ((hGq13 k n881 n882 n886 n887)).trans ((hGq1 k n529 n530))), (fun k n39 n40 n41 n65 n66 n67 => ((hFq13 k n65 n66 n67)).trans ((hFq1 k n39 n40 n41))), (fun k n0 n2 n5 => ((hHq13 k n2 n5)).trans ((hHq1 k n0))), ⟨trivial, trivial⟩⟩
