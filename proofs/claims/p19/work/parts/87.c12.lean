section
set_option maxRecDepth 100000 in
set_option maxHeartbeats 8000000 in
theorem CM_158 {X : pm_X} {d : Nat} {wr : pm_W} {f : Nat → Int32} {A : Nat → List Int32} {R : Nat → Value} {x1 x2 x3 x4 : Int32} (hX : XO X) (hI : CI f A R) : pmE pg X pg_tyl pg_cl (d + 7) 158 0 (pm_ent (pm_max pg 158) [.ref 0, .int x1, .int x2, .int x3, .int x4]) [] (cd f A R wr) (fun q => ∃ (f' : Nat → Int32) (A' : Nat → List Int32) (R' : Nat → Value) (r : Int32), q = (some (.int r), cd f' A' R' wr, 0, 0) ∧ CI f' A' R' ∧ (∀ k : Nat, k ≠ 529 → k ≠ 530 → k ≠ 1095 → f' k = f k) ∧ (∀ k : Nat, k ≠ 39 → k ≠ 40 → k ≠ 41 → k ≠ 74 → k ≠ 77 → k ≠ 80 → k ≠ 81 → k ≠ 82 → A' k = A k) ∧ (∀ k : Nat, k ≠ 0 → k ≠ 3 → R' k = R k) ∧ ((True ∧ True))) := by
  show pmE pg X pg_tyl pg_cl (d + 7) 158 0 [.ref 0, .int x1, .int x2, .int x3, .int x4, pm_dead, pm_dead, pm_dead, pm_dead] [] (cd f A R wr) _
  refine pe_aload_n (j := 0) (by decide +kernel) rfl ?_
  refine pe_iload_n (j := 1) (by decide +kernel) rfl ?_
  refine pe_iload_n (j := 2) (by decide +kernel) rfl ?_
  refine pe_iload_n (j := 3) (by decide +kernel) rfl ?_
  refine pe_iload (j := 4) (by decide +kernel) rfl ?_
  refine pz_callV (j := 284) (mj := 141) (by decide +kernel) (cll_V (args := [.int x4, .int x3, .int x2, .int x1]) (n := 4) (by decide +kernel) rfl rfl cd_o0 (by decide +kernel) (Nat.le_of_ble_eq_true rfl) (Nat.le_of_ble_eq_true rfl)) (CM_141 hX hI) (fun q1a q1b q1c q1d hqq1 => ?_)
  obtain ⟨f2, A3, R4, rq1, eq1, hIq1, hGq1, hFq1, hHq1, kq1⟩ := hqq1
  cases eq1
  refine ⟨rfl, rfl, ?_⟩
  rcases kq1 with kq1 | kq1
  · skip
    obtain ⟨erq1, kq1⟩ := kq1
    subst erq1
    show pmE pg X pg_tyl pg_cl (d + 7) 158 9 [.ref 0, .int x1, .int x2, .int x3, .int x4, pm_dead, pm_dead, pm_dead, pm_dead] [.int 0] (cd f2 A3 R4 wr) _
    refine pz_if_ne (off := 5) (t := 14) (by decide +kernel) (by decide) rfl kz_0 (fun h5 => by omega) (fun h5 => ?_)
    refine pe_iconstv (n := (-1)) (v := (-1)) (by decide +kernel) (by decide +kernel) ?_
    exact pe_iret (by decide +kernel) rfl rfl ⟨f2, A3, R4, (-1), rfl, hIq1, (fun k n529 n530 n1095 => (hGq1 k n529 n530)), (fun k n39 n40 n41 n74 n77 n80 n81 n82 => (hFq1 k n39 n40 n41)), (fun k n0 n3 => (hHq1 k n0)), ⟨trivial, trivial⟩⟩
  · skip
    obtain ⟨erq1, kq1⟩ := kq1
    subst erq1
    obtain ⟨⟨v6, hv6, hR0q1⟩, kq1⟩ := kq1
    have bv6 := VV_b hv6
    show pmE pg X pg_tyl pg_cl (d + 7) 158 9 [.ref 0, .int x1, .int x2, .int x3, .int x4, pm_dead, pm_dead, pm_dead, pm_dead] [.int 1] (cd f2 A3 R4 wr) _
    refine pz_if_ne (off := 5) (t := 14) (by decide +kernel) (by decide) rfl kz_1 (fun h6 => ?_) (fun h6 => by omega)
    refine pe_aload_n (j := 0) (by decide +kernel) rfl ?_
    refine pe_get (j := 34) (ci := 11) (n := 4) (by decide +kernel) (by decide +kernel) cd_o0 rfl ?_
    refine pe_get (j := 287) (ci := 7) (n := 0) (by decide +kernel) (by decide +kernel) cd_o33 rfl ?_
    refine pe_topV (v := .ref v6) (hR0q1) ?_
    refine pe_astore (j := 5) (ls' := [.ref 0, .int x1, .int x2, .int x3, .int x4, .ref v6, pm_dead, pm_dead, pm_dead]) (by decide +kernel) (Nat.le_of_ble_eq_true rfl) rfl ?_
    refine pe_aload (j := 5) (by decide +kernel) rfl ?_
    refine pe_iload (j := 4) (by decide +kernel) rfl ?_
    refine pe_iconstv (n := 0) (v := 0) (by decide +kernel) (by decide +kernel) ?_
    refine pi_V (j := 145) (mj := 65) (by decide +kernel) (cll_V (args := [.int 0, .int x4]) (n := 2) (by decide +kernel) rfl rfl (cv_o hv6) (by decide +kernel) (Nat.le_of_ble_eq_true rfl) (Nat.le_of_ble_eq_true rfl)) ?_
    show pmE pg X pg_tyl pg_cl (d + 6) 65 0 [.ref v6, .int x4, .int 0] [] (cd f2 A3 R4 wr) _
    refine pe_aload_n (j := 0) (by decide +kernel) rfl ?_
    refine pe_get (j := 25) (ci := 9) (n := 6) (by decide +kernel) (by decide +kernel) (cv_o hv6) rfl ?_
    refine pe_iload_n (j := 1) (by decide +kernel) rfl ?_
    refine pe_iconstv (n := 4) (v := 4) (by decide +kernel) (by decide +kernel) ?_
    refine pz_mul (by decide +kernel) rfl kz_4 (by omega) (by omega) (fun z7 hz7 => ?_)
    refine pe_iload_n (j := 2) (by decide +kernel) rfl ?_
    refine pz_add (by decide +kernel) hz7 kz_0 (by omega) (by omega) (fun z8 hz8 => ?_)
    clear hz7
    refine pz_iald (by decide +kernel) (cv_a4 hv6) (cv_l4 hv6 hIq1) hz8 (by omega) (by omega) (fun v9 ev9 => ?_)
    have rv9 : 0 ≤ v9.toInt ∧ v9.toInt ≤ 8 := ct0_m (cv_t4 hv6 hIq1 ev9) (by omega)
    rw [show A3 (v6 + 4) = A (v6 + 4) from (hFq1 (v6 + 4) (by omega) (by omega) (by omega))] at ev9
    clear hz8
    refine pe_iret (by decide +kernel) rfl rfl ⟨rfl, rfl, ?_⟩
    show pmE pg X pg_tyl pg_cl (d + 7) 158 31 [.ref 0, .int x1, .int x2, .int x3, .int x4, .ref v6, pm_dead, pm_dead, pm_dead] [.int v9] (cd f2 A3 R4 wr) _
    refine pe_istore (j := 6) (ls' := [.ref 0, .int x1, .int x2, .int x3, .int x4, .ref v6, .int v9, pm_dead, pm_dead]) (by decide +kernel) (Nat.le_of_ble_eq_true rfl) rfl ?_
    refine pe_aload (j := 5) (by decide +kernel) rfl ?_
    refine pe_iload (j := 4) (by decide +kernel) rfl ?_
    refine pe_iconstv (n := 1) (v := 1) (by decide +kernel) (by decide +kernel) ?_
    refine pi_V (j := 145) (mj := 65) (by decide +kernel) (cll_V (args := [.int 1, .int x4]) (n := 2) (by decide +kernel) rfl rfl (cv_o hv6) (by decide +kernel) (Nat.le_of_ble_eq_true rfl) (Nat.le_of_ble_eq_true rfl)) ?_
    show pmE pg X pg_tyl pg_cl (d + 6) 65 0 [.ref v6, .int x4, .int 1] [] (cd f2 A3 R4 wr) _
    refine pe_aload_n (j := 0) (by decide +kernel) rfl ?_
    refine pe_get (j := 25) (ci := 9) (n := 6) (by decide +kernel) (by decide +kernel) (cv_o hv6) rfl ?_
    refine pe_iload_n (j := 1) (by decide +kernel) rfl ?_
    refine pe_iconstv (n := 4) (v := 4) (by decide +kernel) (by decide +kernel) ?_
    refine pz_mul (by decide +kernel) rfl kz_4 (by omega) (by omega) (fun z10 hz10 => ?_)
    refine pe_iload_n (j := 2) (by decide +kernel) rfl ?_
    refine pz_add (by decide +kernel) hz10 kz_1 (by omega) (by omega) (fun z11 hz11 => ?_)
    clear hz10
    refine pz_iald (by decide +kernel) (cv_a4 hv6) (cv_l4 hv6 hIq1) hz11 (by omega) (by omega) (fun v12 ev12 => ?_)
    have rv12 : 0 ≤ v12.toInt ∧ v12.toInt ≤ 8 := ct0_m (cv_t4 hv6 hIq1 ev12) (by omega)
    rw [show A3 (v6 + 4) = A (v6 + 4) from (hFq1 (v6 + 4) (by omega) (by omega) (by omega))] at ev12
    clear hz11
    refine pe_iret (by decide +kernel) rfl rfl ⟨rfl, rfl, ?_⟩
    show pmE pg X pg_tyl pg_cl (d + 7) 158 41 [.ref 0, .int x1, .int x2, .int x3, .int x4, .ref v6, .int v9, pm_dead, pm_dead] [.int v12] (cd f2 A3 R4 wr) _
    refine pe_istore (j := 7) (ls' := [.ref 0, .int x1, .int x2, .int x3, .int x4, .ref v6, .int v9, .int v12, pm_dead]) (by decide +kernel) (Nat.le_of_ble_eq_true rfl) rfl ?_
    refine pe_aload (j := 5) (by decide +kernel) rfl ?_
    refine pe_iload (j := 4) (by decide +kernel) rfl ?_
    refine pe_iconstv (n := 2) (v := 2) (by decide +kernel) (by decide +kernel) ?_
    refine pi_V (j := 145) (mj := 65) (by decide +kernel) (cll_V (args := [.int 2, .int x4]) (n := 2) (by decide +kernel) rfl rfl (cv_o hv6) (by decide +kernel) (Nat.le_of_ble_eq_true rfl) (Nat.le_of_ble_eq_true rfl)) ?_
    show pmE pg X pg_tyl pg_cl (d + 6) 65 0 [.ref v6, .int x4, .int 2] [] (cd f2 A3 R4 wr) _
    refine pe_aload_n (j := 0) (by decide +kernel) rfl ?_
    refine pe_get (j := 25) (ci := 9) (n := 6) (by decide +kernel) (by decide +kernel) (cv_o hv6) rfl ?_
    refine pe_iload_n (j := 1) (by decide +kernel) rfl ?_
    refine pe_iconstv (n := 4) (v := 4) (by decide +kernel) (by decide +kernel) ?_
    refine pz_mul (by decide +kernel) rfl kz_4 (by omega) (by omega) (fun z13 hz13 => ?_)
    refine pe_iload_n (j := 2) (by decide +kernel) rfl ?_
    refine pz_add (by decide +kernel) hz13 kz_2 (by omega) (by omega) (fun z14 hz14 => ?_)
    clear hz13
    refine pz_iald (by decide +kernel) (cv_a4 hv6) (cv_l4 hv6 hIq1) hz14 (by omega) (by omega) (fun v15 ev15 => ?_)
    rw [show A3 (v6 + 4) = A (v6 + 4) from (hFq1 (v6 + 4) (by omega) (by omega) (by omega))] at ev15
    clear hz14
    refine pe_iret (by decide +kernel) rfl rfl ⟨rfl, rfl, ?_⟩
    show pmE pg X pg_tyl pg_cl (d + 7) 158 51 [.ref 0, .int x1, .int x2, .int x3, .int x4, .ref v6, .int v9, .int v12, pm_dead] [.int v15] (cd f2 A3 R4 wr) _
    refine pe_aload_n (j := 0) (by decide +kernel) rfl ?_
    refine pe_get (j := 34) (ci := 11) (n := 4) (by decide +kernel) (by decide +kernel) cd_o0 rfl ?_
    refine pe_iload (j := 6) (by decide +kernel) rfl ?_
    refine pe_iload (j := 7) (by decide +kernel) rfl ?_
    refine pz_callV (j := 189) (mj := 77) (by decide +kernel) (cll_V (args := [.int v12, .int v9]) (n := 2) (by decide +kernel) rfl rfl cd_o33 (by decide +kernel) (Nat.le_of_ble_eq_true rfl) (Nat.le_of_ble_eq_true rfl)) (CM_77 hX hIq1 hv6 (hR0q1) (by omega) (by omega)) (fun q16a q16b q16c q16d hqq16 => ?_)
    obtain ⟨rq16, eq16, kq16⟩ := hqq16
    cases eq16
    refine ⟨rfl, rfl, ?_⟩
    show pmE pg X pg_tyl pg_cl (d + 7) 158 62 [.ref 0, .int x1, .int x2, .int x3, .int x4, .ref v6, .int v9, .int v12, pm_dead] [.int rq16, .int v15] (cd f2 A3 R4 wr) _
    have lw18 := zi_lo v15
    have uw18 := zi_hi v15
    have lw19 := zi_lo rq16
    have uw19 := zi_hi rq16
    refine pz_min (j := 333) (c := (-2147483648)) (by decide +kernel) (by decide +kernel) (Nat.le_of_ble_eq_true rfl) rfl rfl (by omega) (by omega) (fun z17 hz17 => ?_)
    refine pe_istore (j := 8) (ls' := [.ref 0, .int x1, .int x2, .int x3, .int x4, .ref v6, .int v9, .int v12, .int z17]) (by decide +kernel) (Nat.le_of_ble_eq_true rfl) rfl ?_
    refine pe_aload_n (j := 0) (by decide +kernel) rfl ?_
    refine pe_get (j := 55) (ci := 11) (n := 7) (by decide +kernel) (by decide +kernel) cd_o0 rfl ?_
    refine pe_aload_n (j := 0) (by decide +kernel) rfl ?_
    refine pe_get (j := 34) (ci := 11) (n := 4) (by decide +kernel) (by decide +kernel) cd_o0 rfl ?_
    refine pz_callV (j := 338) (mj := 159) (by decide +kernel) (cll_V (args := [.ref 33]) (n := 1) (by decide +kernel) rfl rfl cd_o68 (by decide +kernel) (Nat.le_of_ble_eq_true rfl) (Nat.le_of_ble_eq_true rfl)) (CM_159 hX hIq1 hv6 (hR0q1)) (fun q20a q20b q20c q20d hqq20 => ?_)
    obtain ⟨f21, A22, R23, eq20, hIq20, hGq20, hFq20, hHq20, hS3q20, kq20⟩ := hqq20
    cases eq20
    refine ⟨rfl, rfl, ?_⟩
    show pmE pg X pg_tyl pg_cl (d + 7) 158 78 [.ref 0, .int x1, .int x2, .int x3, .int x4, .ref v6, .int v9, .int v12, .int z17] [] (cd f21 A22 R23 wr) _
    refine pe_iload (j := 8) (by decide +kernel) rfl ?_
    refine pe_aload_n (j := 0) (by decide +kernel) rfl ?_
    refine pe_get (j := 55) (ci := 11) (n := 7) (by decide +kernel) (by decide +kernel) cd_o0 rfl ?_
    refine pe_iload (j := 7) (by decide +kernel) rfl ?_
    refine pe_iload (j := 6) (by decide +kernel) rfl ?_
    refine pz_callV (j := 342) (mj := 161) (by decide +kernel) (cll_V (args := [.int v9, .int v12]) (n := 2) (by decide +kernel) rfl rfl cd_o68 (by decide +kernel) (Nat.le_of_ble_eq_true rfl) (Nat.le_of_ble_eq_true rfl)) (CM_161 hX hIq20 hv6 (hS3q20) (by omega) (by omega)) (fun q24a q24b q24c q24d hqq24 => ?_)
    obtain ⟨A25, rq24, eq24, hIq24, hFq24, kq24⟩ := hqq24
    cases eq24
    refine ⟨rfl, rfl, ?_⟩
    show pmE pg X pg_tyl pg_cl (d + 7) 158 91 [.ref 0, .int x1, .int x2, .int x3, .int x4, .ref v6, .int v9, .int v12, .int z17] [.int rq24, .int z17] (cd f21 A25 R23 wr) _
    have lw27 := zi_lo z17
    have uw27 := zi_hi z17
    have lw28 := zi_lo rq24
    have uw28 := zi_hi rq24
    refine pz_min (j := 333) (c := (-2147483648)) (by decide +kernel) (by decide +kernel) (Nat.le_of_ble_eq_true rfl) rfl rfl (by omega) (by omega) (fun z26 hz26 => ?_)
    exact pe_iret (by decide +kernel) rfl rfl ⟨f21, A25, R23, z26, rfl, hIq24, (fun k n529 n530 n1095 => ((hGq20 k n1095)).trans ((hGq1 k n529 n530))), (fun k n39 n40 n41 n74 n77 n80 n81 n82 => ((hFq24 k n80 n81 n82)).trans (((hFq20 k n74 n77)).trans ((hFq1 k n39 n40 n41)))), (fun k n0 n3 => ((hHq20 k n3)).trans ((hHq1 k n0))), ⟨trivial, trivial⟩⟩
set_option maxRecDepth 100000 in
set_option maxHeartbeats 8000000 in
theorem CM_167 {X : pm_X} {d : Nat} {wr : pm_W} {f : Nat → Int32} {A : Nat → List Int32} {R : Nat → Value} {x1 x2 x3 x4 x5 : Int32} (hX : XO X) (hI : CI f A R) : pmE pg X pg_tyl pg_cl (d + 7) 167 0 (pm_ent (pm_max pg 167) [.ref 0, .int x1, .int x2, .int x3, .int x4, .int x5]) [] (cd f A R wr) (fun q => ∃ (f' : Nat → Int32) (A' : Nat → List Int32) (R' : Nat → Value) (r : Int32), q = (some (.int r), cd f' A' R' wr, 0, 0) ∧ CI f' A' R' ∧ (∀ k : Nat, k ≠ 529 → k ≠ 530 → k ≠ 1095 → f' k = f k) ∧ (∀ k : Nat, k ≠ 39 → k ≠ 40 → k ≠ 41 → k ≠ 74 → k ≠ 75 → k ≠ 76 → k ≠ 77 → k ≠ 80 → k ≠ 81 → k ≠ 82 → A' k = A k) ∧ (∀ k : Nat, k ≠ 0 → k ≠ 3 → R' k = R k) ∧ ((r = 0 ∧ True) ∨ (r = 1 ∧ (0 ≤ x3.toInt ∧ x3.toInt ≤ 30) ∧ (0 ≤ x4.toInt ∧ x4.toInt ≤ 127)))) := by
  show pmE pg X pg_tyl pg_cl (d + 7) 167 0 [.ref 0, .int x1, .int x2, .int x3, .int x4, .int x5] [] (cd f A R wr) _
  refine pe_aload_n (j := 0) (by decide +kernel) rfl ?_
  refine pe_iload_n (j := 1) (by decide +kernel) rfl ?_
  refine pe_iload_n (j := 2) (by decide +kernel) rfl ?_
  refine pe_iload_n (j := 3) (by decide +kernel) rfl ?_
  refine pe_iload (j := 4) (by decide +kernel) rfl ?_
  refine pz_callV (j := 345) (mj := 168) (by decide +kernel) (cll_V (args := [.int x4, .int x3, .int x2, .int x1]) (n := 4) (by decide +kernel) rfl rfl cd_o0 (by decide +kernel) (Nat.le_of_ble_eq_true rfl) (Nat.le_of_ble_eq_true rfl)) (CM_168 hX hI) (fun q1a q1b q1c q1d hqq1 => ?_)
  obtain ⟨f2, A3, R4, rq1, eq1, hIq1, hGq1, hFq1, hHq1, kq1⟩ := hqq1
  cases eq1
  refine ⟨rfl, rfl, ?_⟩
  rcases kq1 with kq1 | kq1
  · skip
    obtain ⟨erq1, kq1⟩ := kq1
    subst erq1
    show pmE pg X pg_tyl pg_cl (d + 7) 167 9 [.ref 0, .int x1, .int x2, .int x3, .int x4, .int x5] [.int 0] (cd f2 A3 R4 wr) _
    refine pz_if_ne (off := 5) (t := 14) (by decide +kernel) (by decide) rfl kz_0 (fun h5 => by omega) (fun h5 => ?_)
    refine pe_iconstv (n := 0) (v := 0) (by decide +kernel) (by decide +kernel) ?_
    exact pe_iret (by decide +kernel) rfl rfl ⟨f2, A3, R4, 0, rfl, hIq1, (fun k n529 n530 n1095 => (hGq1 k n529 n530 n1095)), (fun k n39 n40 n41 n74 n75 n76 n77 n80 n81 n82 => (hFq1 k n39 n40 n41 n74 n77)), (fun k n0 n3 => (hHq1 k n0 n3)), Or.inl ⟨rfl, trivial⟩⟩
  · skip
    obtain ⟨erq1, kq1⟩ := kq1
    subst erq1
    obtain ⟨⟨v6, hv6, hR0q1, hR3q1⟩, kq1⟩ := kq1
    have bv6 := VV_b hv6
    show pmE pg X pg_tyl pg_cl (d + 7) 167 9 [.ref 0, .int x1, .int x2, .int x3, .int x4, .int x5] [.int 1] (cd f2 A3 R4 wr) _
    refine pz_if_ne (off := 5) (t := 14) (by decide +kernel) (by decide) rfl kz_1 (fun h6 => ?_) (fun h6 => by omega)
    refine pe_aload_n (j := 0) (by decide +kernel) rfl ?_
    refine pe_get (j := 55) (ci := 11) (n := 7) (by decide +kernel) (by decide +kernel) cd_o0 rfl ?_
    refine pe_iload (j := 4) (by decide +kernel) rfl ?_
    refine pe_iload (j := 5) (by decide +kernel) rfl ?_
    have lw8 := zi_lo x5
    have uw8 := zi_hi x5
    refine pz_if_eq (off := 16) (t := 38) (by decide +kernel) (by decide) rfl rfl (fun h7 => ?_) (fun h7 => ?_)
    · skip
      refine pe_iconstv (n := 0) (v := 0) (by decide +kernel) (by decide +kernel) ?_
      refine pz_callV (j := 348) (mj := 169) (by decide +kernel) (cll_V (args := [.int 0, .int x4]) (n := 2) (by decide +kernel) rfl rfl cd_o68 (by decide +kernel) (Nat.le_of_ble_eq_true rfl) (Nat.le_of_ble_eq_true rfl)) (CM_169 hX hIq1 hv6 (hR3q1)) (fun q9a q9b q9c q9d hqq9 => ?_)
      obtain ⟨A10, rq9, eq9, hIq9, hFq9, kq9⟩ := hqq9
      cases eq9
      refine ⟨rfl, rfl, ?_⟩
      rcases kq9 with kq9 | kq9
      · skip
        obtain ⟨erq9, kq9⟩ := kq9
        subst erq9
        show pmE pg X pg_tyl pg_cl (d + 7) 167 42 [.ref 0, .int x1, .int x2, .int x3, .int x4, .int x5] [.int 0] (cd f2 A10 R4 wr) _
        exact pe_iret (by decide +kernel) rfl rfl ⟨f2, A10, R4, 0, rfl, hIq9, (fun k n529 n530 n1095 => (hGq1 k n529 n530 n1095)), (fun k n39 n40 n41 n74 n75 n76 n77 n80 n81 n82 => ((hFq9 k n75 n76 n80 n81 n82)).trans ((hFq1 k n39 n40 n41 n74 n77))), (fun k n0 n3 => (hHq1 k n0 n3)), Or.inl ⟨rfl, trivial⟩⟩
      · skip
        obtain ⟨erq9, kq9⟩ := kq9
        subst erq9
        show pmE pg X pg_tyl pg_cl (d + 7) 167 42 [.ref 0, .int x1, .int x2, .int x3, .int x4, .int x5] [.int 1] (cd f2 A10 R4 wr) _
        exact pe_iret (by decide +kernel) rfl rfl ⟨f2, A10, R4, 1, rfl, hIq9, (fun k n529 n530 n1095 => (hGq1 k n529 n530 n1095)), (fun k n39 n40 n41 n74 n75 n76 n77 n80 n81 n82 => ((hFq9 k n75 n76 n80 n81 n82)).trans ((hFq1 k n39 n40 n41 n74 n77))), (fun k n0 n3 => (hHq1 k n0 n3)), Or.inr (⟨rfl, (by omega)⟩)⟩
    · skip
      refine pe_aload_n (j := 0) (by decide +kernel) rfl ?_
      refine pe_get (j := 34) (ci := 11) (n := 4) (by decide +kernel) (by decide +kernel) cd_o0 rfl ?_
      refine pe_get (j := 287) (ci := 7) (n := 0) (by decide +kernel) (by decide +kernel) cd_o33 rfl ?_
      refine pe_topV (v := .ref v6) (hR0q1) ?_
      refine pe_get (j := 123) (ci := 9) (n := 1) (by decide +kernel) (by decide +kernel) (cv_o hv6) rfl ?_
      refine pe_top (v := (f (16 * v6 + 1))) ((hGq1 (16 * v6 + 1) (by omega) (by omega) (by omega))) ?_
      refine pe_goto (off := 4) (t := 39) (by decide +kernel) (by decide) rfl ?_
      refine pz_callV (j := 348) (mj := 169) (by decide +kernel) (cll_V (args := [.int (f (16 * v6 + 1)), .int x4]) (n := 2) (by decide +kernel) rfl rfl cd_o68 (by decide +kernel) (Nat.le_of_ble_eq_true rfl) (Nat.le_of_ble_eq_true rfl)) (CM_169 hX hIq1 hv6 (hR3q1)) (fun q11a q11b q11c q11d hqq11 => ?_)
      obtain ⟨A12, rq11, eq11, hIq11, hFq11, kq11⟩ := hqq11
      cases eq11
      refine ⟨rfl, rfl, ?_⟩
      rcases kq11 with kq11 | kq11
      · skip
        obtain ⟨erq11, kq11⟩ := kq11
        subst erq11
        show pmE pg X pg_tyl pg_cl (d + 7) 167 42 [.ref 0, .int x1, .int x2, .int x3, .int x4, .int x5] [.int 0] (cd f2 A12 R4 wr) _
        exact pe_iret (by decide +kernel) rfl rfl ⟨f2, A12, R4, 0, rfl, hIq11, (fun k n529 n530 n1095 => (hGq1 k n529 n530 n1095)), (fun k n39 n40 n41 n74 n75 n76 n77 n80 n81 n82 => ((hFq11 k n75 n76 n80 n81 n82)).trans ((hFq1 k n39 n40 n41 n74 n77))), (fun k n0 n3 => (hHq1 k n0 n3)), Or.inl ⟨rfl, trivial⟩⟩
      · skip
        obtain ⟨erq11, kq11⟩ := kq11
        subst erq11
        show pmE pg X pg_tyl pg_cl (d + 7) 167 42 [.ref 0, .int x1, .int x2, .int x3, .int x4, .int x5] [.int 1] (cd f2 A12 R4 wr) _
        exact pe_iret (by decide +kernel) rfl rfl ⟨f2, A12, R4, 1, rfl, hIq11, (fun k n529 n530 n1095 => (hGq1 k n529 n530 n1095)), (fun k n39 n40 n41 n74 n75 n76 n77 n80 n81 n82 => ((hFq11 k n75 n76 n80 n81 n82)).trans ((hFq1 k n39 n40 n41 n74 n77))), (fun k n0 n3 => (hHq1 k n0 n3)), Or.inr (⟨rfl, (by omega)⟩)⟩
set_option maxRecDepth 100000 in
set_option maxHeartbeats 8000000 in
theorem CM_172 {X : pm_X} {d : Nat} {wr : pm_W} {f : Nat → Int32} {A : Nat → List Int32} {R : Nat → Value} {x1 x2 x3 x4 x5 : Int32} (hX : XO X) (hI : CI f A R) : pmE pg X pg_tyl pg_cl (d + 7) 172 0 (pm_ent (pm_max pg 172) [.ref 0, .int x1, .int x2, .int x3, .int x4, .int x5]) [] (cd f A R wr) (fun q => ∃ (f' : Nat → Int32) (A' : Nat → List Int32) (R' : Nat → Value) (r : Int32), q = (some (.int r), cd f' A' R' wr, 0, 0) ∧ CI f' A' R' ∧ (∀ k : Nat, k ≠ 529 → k ≠ 530 → k ≠ 1095 → f' k = f k) ∧ (∀ k : Nat, k ≠ 39 → k ≠ 40 → k ≠ 41 → k ≠ 74 → k ≠ 75 → k ≠ 76 → k ≠ 77 → k ≠ 80 → k ≠ 81 → k ≠ 82 → A' k = A k) ∧ (∀ k : Nat, k ≠ 0 → k ≠ 3 → R' k = R k) ∧ ((True ∧ True))) := by
  show pmE pg X pg_tyl pg_cl (d + 7) 172 0 [.ref 0, .int x1, .int x2, .int x3, .int x4, .int x5, pm_dead] [] (cd f A R wr) _
  refine pe_aload_n (j := 0) (by decide +kernel) rfl ?_
  refine pe_iload_n (j := 1) (by decide +kernel) rfl ?_
  refine pe_iload_n (j := 2) (by decide +kernel) rfl ?_
  refine pe_iload_n (j := 3) (by decide +kernel) rfl ?_
  refine pz_callV (j := 351) (mj := 173) (by decide +kernel) (cll_V (args := [.int x3, .int x2, .int x1]) (n := 3) (by decide +kernel) rfl rfl cd_o0 (by decide +kernel) (Nat.le_of_ble_eq_true rfl) (Nat.le_of_ble_eq_true rfl)) (CM_173 hX hI) (fun q1a q1b q1c q1d hqq1 => ?_)
  obtain ⟨f2, A3, R4, rq1, eq1, hIq1, hGq1, hFq1, hHq1, kq1⟩ := hqq1
  cases eq1
  refine ⟨rfl, rfl, ?_⟩
  rcases kq1 with kq1 | kq1
  · skip
    obtain ⟨erq1, kq1⟩ := kq1
    subst erq1
    show pmE pg X pg_tyl pg_cl (d + 7) 172 7 [.ref 0, .int x1, .int x2, .int x3, .int x4, .int x5, pm_dead] [.int 0] (cd f2 A3 R4 wr) _
    refine pz_if_ne (off := 5) (t := 12) (by decide +kernel) (by decide) rfl kz_0 (fun h5 => by omega) (fun h5 => ?_)
    refine pe_iconstv (n := (-1)) (v := (-1)) (by decide +kernel) (by decide +kernel) ?_
    exact pe_iret (by decide +kernel) rfl rfl ⟨f2, A3, R4, (-1), rfl, hIq1, (fun k n529 n530 n1095 => (hGq1 k n529 n530 n1095)), (fun k n39 n40 n41 n74 n75 n76 n77 n80 n81 n82 => (hFq1 k n39 n40 n41 n74 n77)), (fun k n0 n3 => (hHq1 k n0 n3)), ⟨trivial, trivial⟩⟩
  · skip
    obtain ⟨erq1, kq1⟩ := kq1
    subst erq1
    obtain ⟨⟨v4, hv4, hR0q1, hR3q1⟩, kq1⟩ := kq1
    have bv4 := VV_b hv4
    show pmE pg X pg_tyl pg_cl (d + 7) 172 7 [.ref 0, .int x1, .int x2, .int x3, .int x4, .int x5, pm_dead] [.int 1] (cd f2 A3 R4 wr) _
    refine pz_if_ne (off := 5) (t := 12) (by decide +kernel) (by decide) rfl kz_1 (fun h6 => ?_) (fun h6 => by omega)
    refine pe_aload_n (j := 0) (by decide +kernel) rfl ?_
    refine pe_get (j := 55) (ci := 11) (n := 7) (by decide +kernel) (by decide +kernel) cd_o0 rfl ?_
    refine pe_iload (j := 4) (by decide +kernel) rfl ?_
    have lw8 := zi_lo x4
    have uw8 := zi_hi x4
    refine pz_if_eq (off := 16) (t := 34) (by decide +kernel) (by decide) rfl rfl (fun h7 => ?_) (fun h7 => ?_)
    · skip
      refine pe_iconstv (n := 0) (v := 0) (by decide +kernel) (by decide +kernel) ?_
      refine pz_callV (j := 354) (mj := 174) (by decide +kernel) (cll_V (args := [.int 0]) (n := 1) (by decide +kernel) rfl rfl cd_o68 (by decide +kernel) (Nat.le_of_ble_eq_true rfl) (Nat.le_of_ble_eq_true rfl)) (CM_174 hX hIq1 hv4 (hR3q1)) (fun q9a q9b q9c q9d hqq9 => ?_)
      obtain ⟨A10, rq9, eq9, hIq9, hFq9, kq9⟩ := hqq9
      cases eq9
      refine ⟨rfl, rfl, ?_⟩
      show pmE pg X pg_tyl pg_cl (d + 7) 172 38 [.ref 0, .int x1, .int x2, .int x3, .int x4, .int x5, pm_dead] [.int rq9] (cd f2 A10 R4 wr) _
      refine pe_istore (j := 6) (ls' := [.ref 0, .int x1, .int x2, .int x3, .int x4, .int x5, .int rq9]) (by decide +kernel) (Nat.le_of_ble_eq_true rfl) rfl ?_
      refine pe_iload (j := 5) (by decide +kernel) rfl ?_
      have lw12 := zi_lo x5
      have uw12 := zi_hi x5
      refine pz_if_eq (off := 16) (t := 58) (by decide +kernel) (by decide) rfl rfl (fun h11 => ?_) (fun h11 => ?_)
      · skip
        refine pe_iload (j := 6) (by decide +kernel) rfl ?_
        exact pe_iret (by decide +kernel) rfl rfl ⟨f2, A10, R4, rq9, rfl, hIq9, (fun k n529 n530 n1095 => (hGq1 k n529 n530 n1095)), (fun k n39 n40 n41 n74 n75 n76 n77 n80 n81 n82 => ((hFq9 k n75 n76 n80 n81 n82)).trans ((hFq1 k n39 n40 n41 n74 n77))), (fun k n0 n3 => (hHq1 k n0 n3)), ⟨trivial, trivial⟩⟩
      · skip
        refine pe_aload_n (j := 0) (by decide +kernel) rfl ?_
        refine pe_get (j := 55) (ci := 11) (n := 7) (by decide +kernel) (by decide +kernel) cd_o0 rfl ?_
        refine pe_get (j := 357) (ci := 10) (n := 4) (by decide +kernel) (by decide +kernel) cd_o68 rfl ?_
        refine pe_iload (j := 6) (by decide +kernel) rfl ?_
        refine pz_iald (by decide +kernel) cd_a77 (cl_77 hIq9) rfl (by omega) (by omega) (fun v13 ev13 => ?_)
        rw [show A10 77 = A3 77 from (hFq9 77 (by decide) (by decide) (by decide) (by decide) (by decide))] at ev13
        refine pe_goto (off := 5) (t := 60) (by decide +kernel) (by decide) rfl ?_
        exact pe_iret (by decide +kernel) rfl rfl ⟨f2, A10, R4, v13, rfl, hIq9, (fun k n529 n530 n1095 => (hGq1 k n529 n530 n1095)), (fun k n39 n40 n41 n74 n75 n76 n77 n80 n81 n82 => ((hFq9 k n75 n76 n80 n81 n82)).trans ((hFq1 k n39 n40 n41 n74 n77))), (fun k n0 n3 => (hHq1 k n0 n3)), ⟨trivial, trivial⟩⟩
    · skip
      refine pe_aload_n (j := 0) (by decide +kernel) rfl ?_
      refine pe_get (j := 34) (ci := 11) (n := 4) (by decide +kernel) (by decide +kernel) cd_o0 rfl ?_
      refine pe_get (j := 287) (ci := 7) (n := 0) (by decide +kernel) (by decide +kernel) cd_o33 rfl ?_
      refine pe_topV (v := .ref v4) (hR0q1) ?_
      refine pe_get (j := 123) (ci := 9) (n := 1) (by decide +kernel) (by decide +kernel) (cv_o hv4) rfl ?_
      refine pe_top (v := (f (16 * v4 + 1))) ((hGq1 (16 * v4 + 1) (by omega) (by omega) (by omega))) ?_
      refine pe_goto (off := 4) (t := 35) (by decide +kernel) (by decide) rfl ?_
      refine pz_callV (j := 354) (mj := 174) (by decide +kernel) (cll_V (args := [.int (f (16 * v4 + 1))]) (n := 1) (by decide +kernel) rfl rfl cd_o68 (by decide +kernel) (Nat.le_of_ble_eq_true rfl) (Nat.le_of_ble_eq_true rfl)) (CM_174 hX hIq1 hv4 (hR3q1)) (fun q14a q14b q14c q14d hqq14 => ?_)
      obtain ⟨A15, rq14, eq14, hIq14, hFq14, kq14⟩ := hqq14
      cases eq14
      refine ⟨rfl, rfl, ?_⟩
      show pmE pg X pg_tyl pg_cl (d + 7) 172 38 [.ref 0, .int x1, .int x2, .int x3, .int x4, .int x5, pm_dead] [.int rq14] (cd f2 A15 R4 wr) _
      refine pe_istore (j := 6) (ls' := [.ref 0, .int x1, .int x2, .int x3, .int x4, .int x5, .int rq14]) (by decide +kernel) (Nat.le_of_ble_eq_true rfl) rfl ?_
      refine pe_iload (j := 5) (by decide +kernel) rfl ?_
      have lw17 := zi_lo x5
      have uw17 := zi_hi x5
      refine pz_if_eq (off := 16) (t := 58) (by decide +kernel) (by decide) rfl rfl (fun h16 => ?_) (fun h16 => ?_)
      · skip
        refine pe_iload (j := 6) (by decide +kernel) rfl ?_
        exact pe_iret (by decide +kernel) rfl rfl ⟨f2, A15, R4, rq14, rfl, hIq14, (fun k n529 n530 n1095 => (hGq1 k n529 n530 n1095)), (fun k n39 n40 n41 n74 n75 n76 n77 n80 n81 n82 => ((hFq14 k n75 n76 n80 n81 n82)).trans ((hFq1 k n39 n40 n41 n74 n77))), (fun k n0 n3 => (hHq1 k n0 n3)), ⟨trivial, trivial⟩⟩
      · skip
        refine pe_aload_n (j := 0) (by decide +kernel) rfl ?_
        refine pe_get (j := 55) (ci := 11) (n := 7) (by decide +kernel) (by decide +kernel) cd_o0 rfl ?_
        refine pe_get (j := 357) (ci := 10) (n := 4) (by decide +kernel) (by decide +kernel) cd_o68 rfl ?_
        refine pe_iload (j := 6) (by decide +kernel) rfl ?_
        refine pz_iald (by decide +kernel) cd_a77 (cl_77 hIq14) rfl (by omega) (by omega) (fun v18 ev18 => ?_)
        rw [show A15 77 = A3 77 from (hFq14 77 (by decide) (by decide) (by decide) (by decide) (by decide))] at ev18
        refine pe_goto (off := 5) (t := 60) (by decide +kernel) (by decide) rfl ?_
        exact pe_iret (by decide +kernel) rfl rfl ⟨f2, A15, R4, v18, rfl, hIq14, (fun k n529 n530 n1095 => (hGq1 k n529 n530 n1095)), (fun k n39 n40 n41 n74 n75 n76 n77 n80 n81 n82 => ((hFq14 k n75 n76 n80 n81 n82)).trans ((hFq1 k n39 n40 n41 n74 n77))), (fun k n0 n3 => (hHq1 k n0 n3)), ⟨trivial, trivial⟩⟩
set_option maxRecDepth 100000 in
set_option maxHeartbeats 8000000 in
theorem CM_177 {X : pm_X} {d : Nat} {wr : pm_W} {f : Nat → Int32} {A : Nat → List Int32} {R : Nat → Value} {x1 x2 x3 : Int32} (hX : XO X) (hI : CI f A R) : pmE pg X pg_tyl pg_cl (d + 7) 177 0 (pm_ent (pm_max pg 177) [.ref 0, .int x1, .int x2, .int x3]) [] (cd f A R wr) (fun q => ∃ (f' : Nat → Int32) (A' : Nat → List Int32) (R' : Nat → Value) (r : Int32), q = (some (.int r), cd f' A' R' wr, 0, 0) ∧ CI f' A' R' ∧ (∀ k : Nat, k ≠ 529 → k ≠ 530 → k ≠ 1095 → f' k = f k) ∧ (∀ k : Nat, k ≠ 39 → k ≠ 40 → k ≠ 41 → k ≠ 74 → k ≠ 75 → k ≠ 76 → k ≠ 77 → k ≠ 80 → k ≠ 81 → k ≠ 82 → A' k = A k) ∧ (∀ k : Nat, k ≠ 0 → k ≠ 3 → R' k = R k) ∧ ((True ∧ True))) := by
  show pmE pg X pg_tyl pg_cl (d + 7) 177 0 [.ref 0, .int x1, .int x2, .int x3] [] (cd f A R wr) _
  refine pe_aload_n (j := 0) (by decide +kernel) rfl ?_
  refine pe_iload_n (j := 1) (by decide +kernel) rfl ?_
  refine pe_iload_n (j := 2) (by decide +kernel) rfl ?_
  refine pe_iload_n (j := 3) (by decide +kernel) rfl ?_
  refine pz_callV (j := 351) (mj := 173) (by decide +kernel) (cll_V (args := [.int x3, .int x2, .int x1]) (n := 3) (by decide +kernel) rfl rfl cd_o0 (by decide +kernel) (Nat.le_of_ble_eq_true rfl) (Nat.le_of_ble_eq_true rfl)) (CM_173 hX hI) (fun q1a q1b q1c q1d hqq1 => ?_)
  obtain ⟨f2, A3, R4, rq1, eq1, hIq1, hGq1, hFq1, hHq1, kq1⟩ := hqq1
  cases eq1
  refine ⟨rfl, rfl, ?_⟩
  rcases kq1 with kq1 | kq1
  · skip
    obtain ⟨erq1, kq1⟩ := kq1
    subst erq1
    show pmE pg X pg_tyl pg_cl (d + 7) 177 7 [.ref 0, .int x1, .int x2, .int x3] [.int 0] (cd f2 A3 R4 wr) _
    refine pz_if_ne (off := 5) (t := 12) (by decide +kernel) (by decide) rfl kz_0 (fun h5 => by omega) (fun h5 => ?_)
    refine pe_iconstv (n := (-1)) (v := (-1)) (by decide +kernel) (by decide +kernel) ?_
    exact pe_iret (by decide +kernel) rfl rfl ⟨f2, A3, R4, (-1), rfl, hIq1, (fun k n529 n530 n1095 => (hGq1 k n529 n530 n1095)), (fun k n39 n40 n41 n74 n75 n76 n77 n80 n81 n82 => (hFq1 k n39 n40 n41 n74 n77)), (fun k n0 n3 => (hHq1 k n0 n3)), ⟨trivial, trivial⟩⟩
  · skip
    obtain ⟨erq1, kq1⟩ := kq1
    subst erq1
    obtain ⟨⟨v4, hv4, hR0q1, hR3q1⟩, kq1⟩ := kq1
    have bv4 := VV_b hv4
    show pmE pg X pg_tyl pg_cl (d + 7) 177 7 [.ref 0, .int x1, .int x2, .int x3] [.int 1] (cd f2 A3 R4 wr) _
    refine pz_if_ne (off := 5) (t := 12) (by decide +kernel) (by decide) rfl kz_1 (fun h6 => ?_) (fun h6 => by omega)
    refine pe_aload_n (j := 0) (by decide +kernel) rfl ?_
    refine pe_get (j := 55) (ci := 11) (n := 7) (by decide +kernel) (by decide +kernel) cd_o0 rfl ?_
    refine pe_aload_n (j := 0) (by decide +kernel) rfl ?_
    refine pe_get (j := 34) (ci := 11) (n := 4) (by decide +kernel) (by decide +kernel) cd_o0 rfl ?_
    refine pe_get (j := 287) (ci := 7) (n := 0) (by decide +kernel) (by decide +kernel) cd_o33 rfl ?_
    refine pe_topV (v := .ref v4) (hR0q1) ?_
    refine pe_get (j := 123) (ci := 9) (n := 1) (by decide +kernel) (by decide +kernel) (cv_o hv4) rfl ?_
    refine pe_top (v := (f (16 * v4 + 1))) ((hGq1 (16 * v4 + 1) (by omega) (by omega) (by omega))) ?_
    refine pz_callV (j := 360) (mj := 178) (by decide +kernel) (cll_V (args := [.int (f (16 * v4 + 1))]) (n := 1) (by decide +kernel) rfl rfl cd_o68 (by decide +kernel) (Nat.le_of_ble_eq_true rfl) (Nat.le_of_ble_eq_true rfl)) (CM_178 hX hIq1 hv4 (hR3q1)) (fun q7a q7b q7c q7d hqq7 => ?_)
    obtain ⟨A8, rq7, eq7, hIq7, hFq7, kq7⟩ := hqq7
    cases eq7
    refine ⟨rfl, rfl, ?_⟩
    show pmE pg X pg_tyl pg_cl (d + 7) 177 29 [.ref 0, .int x1, .int x2, .int x3] [.int rq7] (cd f2 A8 R4 wr) _
    refine pe_aload_n (j := 0) (by decide +kernel) rfl ?_
    refine pe_get (j := 55) (ci := 11) (n := 7) (by decide +kernel) (by decide +kernel) cd_o0 rfl ?_
    refine pe_iconstv (n := 0) (v := 0) (by decide +kernel) (by decide +kernel) ?_
    refine pz_callV (j := 360) (mj := 178) (by decide +kernel) (cll_V (args := [.int 0]) (n := 1) (by decide +kernel) rfl rfl cd_o68 (by decide +kernel) (Nat.le_of_ble_eq_true rfl) (Nat.le_of_ble_eq_true rfl)) (CM_178 hX hIq7 hv4 (hR3q1)) (fun q9a q9b q9c q9d hqq9 => ?_)
    obtain ⟨A10, rq9, eq9, hIq9, hFq9, kq9⟩ := hqq9
    cases eq9
    refine ⟨rfl, rfl, ?_⟩
    show pmE pg X pg_tyl pg_cl (d + 7) 177 37 [.ref 0, .int x1, .int x2, .int x3] [.int rq9, .int rq7] (cd f2 A10 R4 wr) _
    refine pw_sub (by decide +kernel) (fun z11 => ?_)
    exact pe_iret (by decide +kernel) rfl rfl ⟨f2, A10, R4, z11, rfl, hIq9, (fun k n529 n530 n1095 => (hGq1 k n529 n530 n1095)), (fun k n39 n40 n41 n74 n75 n76 n77 n80 n81 n82 => ((hFq9 k n75 n76 n80 n81 n82)).trans (((hFq7 k n75 n76 n80 n81 n82)).trans ((hFq1 k n39 n40 n41 n74 n77)))), (fun k n0 n3 => (hHq1 k n0 n3)), ⟨trivial, trivial⟩⟩
set_option maxRecDepth 100000 in
set_option maxHeartbeats 8000000 in
theorem CM_179 {X : pm_X} {d : Nat} {wr : pm_W} {f : Nat → Int32} {A : Nat → List Int32} {R : Nat → Value} {x1 x2 x3 x4 : Int32} (hX : XO X) (hI : CI f A R) : pmE pg X pg_tyl pg_cl (d + 7) 179 0 (pm_ent (pm_max pg 179) [.ref 0, .int x1, .int x2, .int x3, .int x4]) [] (cd f A R wr) (fun q => ∃ (f' : Nat → Int32) (A' : Nat → List Int32) (R' : Nat → Value) (r : Int32), q = (some (.int r), cd f' A' R' wr, 0, 0) ∧ CI f' A' R' ∧ (∀ k : Nat, k ≠ 529 → k ≠ 530 → k ≠ 1095 → f' k = f k) ∧ (∀ k : Nat, k ≠ 39 → k ≠ 40 → k ≠ 41 → k ≠ 74 → k ≠ 75 → k ≠ 76 → k ≠ 77 → k ≠ 80 → k ≠ 81 → k ≠ 82 → A' k = A k) ∧ (∀ k : Nat, k ≠ 0 → k ≠ 3 → R' k = R k) ∧ ((True ∧ True))) := by
  show pmE pg X pg_tyl pg_cl (d + 7) 179 0 [.ref 0, .int x1, .int x2, .int x3, .int x4, pm_dead] [] (cd f A R wr) _
  refine pe_aload_n (j := 0) (by decide +kernel) rfl ?_
  refine pe_iload_n (j := 1) (by decide +kernel) rfl ?_
  refine pe_iload_n (j := 2) (by decide +kernel) rfl ?_
  refine pe_iload_n (j := 3) (by decide +kernel) rfl ?_
  refine pz_callV (j := 351) (mj := 173) (by decide +kernel) (cll_V (args := [.int x3, .int x2, .int x1]) (n := 3) (by decide +kernel) rfl rfl cd_o0 (by decide +kernel) (Nat.le_of_ble_eq_true rfl) (Nat.le_of_ble_eq_true rfl)) (CM_173 hX hI) (fun q1a q1b q1c q1d hqq1 => ?_)
  obtain ⟨f2, A3, R4, rq1, eq1, hIq1, hGq1, hFq1, hHq1, kq1⟩ := hqq1
  cases eq1
  refine ⟨rfl, rfl, ?_⟩
  rcases kq1 with kq1 | kq1
  · skip
    obtain ⟨erq1, kq1⟩ := kq1
    subst erq1
    show pmE pg X pg_tyl pg_cl (d + 7) 179 7 [.ref 0, .int x1, .int x2, .int x3, .int x4, pm_dead] [.int 0] (cd f2 A3 R4 wr) _
    refine pz_if_eq (off := 18) (t := 25) (by decide +kernel) (by decide) rfl kz_0 (fun h5 => ?_) (fun h5 => by omega)
    refine pe_iconstv (n := (-1)) (v := (-1)) (by decide +kernel) (by decide +kernel) ?_
    exact pe_iret (by decide +kernel) rfl rfl ⟨f2, A3, R4, (-1), rfl, hIq1, (fun k n529 n530 n1095 => (hGq1 k n529 n530 n1095)), (fun k n39 n40 n41 n74 n75 n76 n77 n80 n81 n82 => (hFq1 k n39 n40 n41 n74 n77)), (fun k n0 n3 => (hHq1 k n0 n3)), ⟨trivial, trivial⟩⟩
  · skip
    obtain ⟨erq1, kq1⟩ := kq1
    subst erq1
    obtain ⟨⟨v4, hv4, hR0q1, hR3q1⟩, kq1⟩ := kq1
    have bv4 := VV_b hv4
    show pmE pg X pg_tyl pg_cl (d + 7) 179 7 [.ref 0, .int x1, .int x2, .int x3, .int x4, pm_dead] [.int 1] (cd f2 A3 R4 wr) _
    refine pz_if_eq (off := 18) (t := 25) (by decide +kernel) (by decide) rfl kz_1 (fun h6 => by omega) (fun h6 => ?_)
    refine pe_aload_n (j := 0) (by decide +kernel) rfl ?_
    refine pe_get (j := 34) (ci := 11) (n := 4) (by decide +kernel) (by decide +kernel) cd_o0 rfl ?_
    refine pe_get (j := 287) (ci := 7) (n := 0) (by decide +kernel) (by decide +kernel) cd_o33 rfl ?_
    refine pe_topV (v := .ref v4) (hR0q1) ?_
    refine pe_iload (j := 4) (by decide +kernel) rfl ?_
    refine pi_V (j := 126) (mj := 61) (by decide +kernel) (cll_V (args := [.int x4]) (n := 1) (by decide +kernel) rfl rfl (cv_o hv4) (by decide +kernel) (Nat.le_of_ble_eq_true rfl) (Nat.le_of_ble_eq_true rfl)) ?_
    show pmE pg X pg_tyl pg_cl (d + 6) 61 0 [.ref v4, .int x4] [] (cd f2 A3 R4 wr) _
    refine pe_iload_n (j := 1) (by decide +kernel) rfl ?_
    have lw8 := zi_lo x4
    have uw8 := zi_hi x4
    refine pz_if_lt (off := 15) (t := 16) (by decide +kernel) (by decide) rfl rfl (fun h7 => ?_) (fun h7 => ?_)
    · skip
      refine pe_iconstv (n := 0) (v := 0) (by decide +kernel) (by decide +kernel) ?_
      refine pe_iret (by decide +kernel) rfl rfl ⟨rfl, rfl, ?_⟩
      show pmE pg X pg_tyl pg_cl (d + 7) 179 22 [.ref 0, .int x1, .int x2, .int x3, .int x4, pm_dead] [.int 0] (cd f2 A3 R4 wr) _
      refine pz_if_ne (off := 5) (t := 27) (by decide +kernel) (by decide) rfl kz_0 (fun h9 => by omega) (fun h9 => ?_)
      refine pe_iconstv (n := (-1)) (v := (-1)) (by decide +kernel) (by decide +kernel) ?_
      exact pe_iret (by decide +kernel) rfl rfl ⟨f2, A3, R4, (-1), rfl, hIq1, (fun k n529 n530 n1095 => (hGq1 k n529 n530 n1095)), (fun k n39 n40 n41 n74 n75 n76 n77 n80 n81 n82 => (hFq1 k n39 n40 n41 n74 n77)), (fun k n0 n3 => (hHq1 k n0 n3)), ⟨trivial, trivial⟩⟩
    · skip
      refine pe_iload_n (j := 1) (by decide +kernel) rfl ?_
      refine pe_aload_n (j := 0) (by decide +kernel) rfl ?_
      refine pe_get (j := 9) (ci := 9) (n := 0) (by decide +kernel) (by decide +kernel) (cv_o hv4) rfl ?_
      have hr_f_16v4 := cv_people hv4 hI
      refine pe_top (v := (f (16 * v4))) ((hGq1 (16 * v4) (by omega) (by omega) (by omega))) ?_
      refine pz_icmp_ge (off := 7) (t := 16) (by decide +kernel) (by decide) rfl rfl rfl (fun h10 => ?_) (fun h10 => ?_)
      · skip
        refine pe_iconstv (n := 0) (v := 0) (by decide +kernel) (by decide +kernel) ?_
        refine pe_iret (by decide +kernel) rfl rfl ⟨rfl, rfl, ?_⟩
        show pmE pg X pg_tyl pg_cl (d + 7) 179 22 [.ref 0, .int x1, .int x2, .int x3, .int x4, pm_dead] [.int 0] (cd f2 A3 R4 wr) _
        refine pz_if_ne (off := 5) (t := 27) (by decide +kernel) (by decide) rfl kz_0 (fun h11 => by omega) (fun h11 => ?_)
        refine pe_iconstv (n := (-1)) (v := (-1)) (by decide +kernel) (by decide +kernel) ?_
        exact pe_iret (by decide +kernel) rfl rfl ⟨f2, A3, R4, (-1), rfl, hIq1, (fun k n529 n530 n1095 => (hGq1 k n529 n530 n1095)), (fun k n39 n40 n41 n74 n75 n76 n77 n80 n81 n82 => (hFq1 k n39 n40 n41 n74 n77)), (fun k n0 n3 => (hHq1 k n0 n3)), ⟨trivial, trivial⟩⟩
      · skip
        refine pe_iconstv (n := 1) (v := 1) (by decide +kernel) (by decide +kernel) ?_
        refine pe_goto (off := 4) (t := 17) (by decide +kernel) (by decide) rfl ?_
        refine pe_iret (by decide +kernel) rfl rfl ⟨rfl, rfl, ?_⟩
        show pmE pg X pg_tyl pg_cl (d + 7) 179 22 [.ref 0, .int x1, .int x2, .int x3, .int x4, pm_dead] [.int 1] (cd f2 A3 R4 wr) _
        refine pz_if_ne (off := 5) (t := 27) (by decide +kernel) (by decide) rfl kz_1 (fun h12 => ?_) (fun h12 => by omega)
        refine pe_aload_n (j := 0) (by decide +kernel) rfl ?_
        refine pe_get (j := 55) (ci := 11) (n := 7) (by decide +kernel) (by decide +kernel) cd_o0 rfl ?_
        refine pe_iconstv (n := 0) (v := 0) (by decide +kernel) (by decide +kernel) ?_
        refine pz_callV (j := 360) (mj := 178) (by decide +kernel) (cll_V (args := [.int 0]) (n := 1) (by decide +kernel) rfl rfl cd_o68 (by decide +kernel) (Nat.le_of_ble_eq_true rfl) (Nat.le_of_ble_eq_true rfl)) (CM_178 hX hIq1 hv4 (hR3q1)) (fun q13a q13b q13c q13d hqq13 => ?_)
        obtain ⟨A14, rq13, eq13, hIq13, hFq13, kq13⟩ := hqq13
        cases eq13
        refine ⟨rfl, rfl, ?_⟩
        show pmE pg X pg_tyl pg_cl (d + 7) 179 35 [.ref 0, .int x1, .int x2, .int x3, .int x4, pm_dead] [.int rq13] (cd f2 A14 R4 wr) _
        refine pe_istore (j := 5) (ls' := [.ref 0, .int x1, .int x2, .int x3, .int x4, .int rq13]) (by decide +kernel) (Nat.le_of_ble_eq_true rfl) rfl ?_
        refine pe_aload_n (j := 0) (by decide +kernel) rfl ?_
        refine pe_get (j := 55) (ci := 11) (n := 7) (by decide +kernel) (by decide +kernel) cd_o0 rfl ?_
        refine pe_iload (j := 4) (by decide +kernel) rfl ?_
        refine pz_callV (j := 363) (mj := 180) (by decide +kernel) (cll_V (args := [.int x4]) (n := 1) (by decide +kernel) rfl rfl cd_o68 (by decide +kernel) (Nat.le_of_ble_eq_true rfl) (Nat.le_of_ble_eq_true rfl)) (CM_180 hX hIq13 hv4 (hR3q1) (by omega)) (fun q15a q15b q15c q15d hqq15 => ?_)
        obtain ⟨A16, eq15, hIq15, hFq15, kq15⟩ := hqq15
        cases eq15
        refine ⟨rfl, rfl, ?_⟩
        show pmE pg X pg_tyl pg_cl (d + 7) 179 46 [.ref 0, .int x1, .int x2, .int x3, .int x4, .int rq13] [] (cd f2 A16 R4 wr) _
        refine pe_iload (j := 5) (by decide +kernel) rfl ?_
        refine pe_aload_n (j := 0) (by decide +kernel) rfl ?_
        refine pe_get (j := 55) (ci := 11) (n := 7) (by decide +kernel) (by decide +kernel) cd_o0 rfl ?_
        refine pe_iconstv (n := 0) (v := 0) (by decide +kernel) (by decide +kernel) ?_
        refine pz_callV (j := 360) (mj := 178) (by decide +kernel) (cll_V (args := [.int 0]) (n := 1) (by decide +kernel) rfl rfl cd_o68 (by decide +kernel) (Nat.le_of_ble_eq_true rfl) (Nat.le_of_ble_eq_true rfl)) (CM_178 hX hIq15 hv4 (hR3q1)) (fun q17a q17b q17c q17d hqq17 => ?_)
        obtain ⟨A18, rq17, eq17, hIq17, hFq17, kq17⟩ := hqq17
        cases eq17
        refine ⟨rfl, rfl, ?_⟩
        show pmE pg X pg_tyl pg_cl (d + 7) 179 56 [.ref 0, .int x1, .int x2, .int x3, .int x4, .int rq13] [.int rq17, .int rq13] (cd f2 A18 R4 wr) _
        refine pw_sub (by decide +kernel) (fun z19 => ?_)
        exact pe_iret (by decide +kernel) rfl rfl ⟨f2, A18, R4, z19, rfl, hIq17, (fun k n529 n530 n1095 => (hGq1 k n529 n530 n1095)), (fun k n39 n40 n41 n74 n75 n76 n77 n80 n81 n82 => ((hFq17 k n75 n76 n80 n81 n82)).trans (((hFq15 k n74)).trans (((hFq13 k n75 n76 n80 n81 n82)).trans ((hFq1 k n39 n40 n41 n74 n77))))), (fun k n0 n3 => (hHq1 k n0 n3)), ⟨trivial, trivial⟩⟩
set_option maxRecDepth 100000 in
set_option maxHeartbeats 8000000 in
theorem CM_181 {X : pm_X} {d : Nat} {wr : pm_W} {f : Nat → Int32} {A : Nat → List Int32} {R : Nat → Value} {x1 x2 x3 x4 : Int32} (hX : XO X) (hI : CI f A R) : pmE pg X pg_tyl pg_cl (d + 7) 181 0 (pm_ent (pm_max pg 181) [.ref 0, .int x1, .int x2, .int x3, .int x4]) [] (cd f A R wr) (fun q => ∃ (f' : Nat → Int32) (A' : Nat → List Int32) (R' : Nat → Value) (r : Int32), q = (some (.int r), cd f' A' R' wr, 0, 0) ∧ CI f' A' R' ∧ (∀ k : Nat, k ≠ 529 → k ≠ 530 → k ≠ 1095 → f' k = f k) ∧ (∀ k : Nat, k ≠ 39 → k ≠ 40 → k ≠ 41 → k ≠ 74 → k ≠ 75 → k ≠ 76 → k ≠ 77 → k ≠ 80 → k ≠ 81 → k ≠ 82 → A' k = A k) ∧ (∀ k : Nat, k ≠ 0 → k ≠ 3 → R' k = R k) ∧ ((True ∧ True))) := by
  show pmE pg X pg_tyl pg_cl (d + 7) 181 0 [.ref 0, .int x1, .int x2, .int x3, .int x4] [] (cd f A R wr) _
  refine pe_aload_n (j := 0) (by decide +kernel) rfl ?_
  refine pe_iload_n (j := 1) (by decide +kernel) rfl ?_
  refine pe_iload_n (j := 2) (by decide +kernel) rfl ?_
  refine pe_iload_n (j := 3) (by decide +kernel) rfl ?_
  refine pe_iload (j := 4) (by decide +kernel) rfl ?_
  refine pz_callV (j := 345) (mj := 168) (by decide +kernel) (cll_V (args := [.int x4, .int x3, .int x2, .int x1]) (n := 4) (by decide +kernel) rfl rfl cd_o0 (by decide +kernel) (Nat.le_of_ble_eq_true rfl) (Nat.le_of_ble_eq_true rfl)) (CM_168 hX hI) (fun q1a q1b q1c q1d hqq1 => ?_)
  obtain ⟨f2, A3, R4, rq1, eq1, hIq1, hGq1, hFq1, hHq1, kq1⟩ := hqq1
  cases eq1
  refine ⟨rfl, rfl, ?_⟩
  rcases kq1 with kq1 | kq1
  · skip
    obtain ⟨erq1, kq1⟩ := kq1
    subst erq1
    show pmE pg X pg_tyl pg_cl (d + 7) 181 9 [.ref 0, .int x1, .int x2, .int x3, .int x4] [.int 0] (cd f2 A3 R4 wr) _
    refine pz_if_ne (off := 5) (t := 14) (by decide +kernel) (by decide) rfl kz_0 (fun h5 => by omega) (fun h5 => ?_)
    refine pe_iconstv (n := (-1)) (v := (-1)) (by decide +kernel) (by decide +kernel) ?_
    exact pe_iret (by decide +kernel) rfl rfl ⟨f2, A3, R4, (-1), rfl, hIq1, (fun k n529 n530 n1095 => (hGq1 k n529 n530 n1095)), (fun k n39 n40 n41 n74 n75 n76 n77 n80 n81 n82 => (hFq1 k n39 n40 n41 n74 n77)), (fun k n0 n3 => (hHq1 k n0 n3)), ⟨trivial, trivial⟩⟩
  · skip
    obtain ⟨erq1, kq1⟩ := kq1
    subst erq1
    obtain ⟨⟨v6, hv6, hR0q1, hR3q1⟩, kq1⟩ := kq1
    have bv6 := VV_b hv6
    show pmE pg X pg_tyl pg_cl (d + 7) 181 9 [.ref 0, .int x1, .int x2, .int x3, .int x4] [.int 1] (cd f2 A3 R4 wr) _
    refine pz_if_ne (off := 5) (t := 14) (by decide +kernel) (by decide) rfl kz_1 (fun h6 => ?_) (fun h6 => by omega)
    refine pe_aload_n (j := 0) (by decide +kernel) rfl ?_
    refine pe_get (j := 55) (ci := 11) (n := 7) (by decide +kernel) (by decide +kernel) cd_o0 rfl ?_
    refine pe_iload (j := 4) (by decide +kernel) rfl ?_
    refine pz_callV (j := 366) (mj := 182) (by decide +kernel) (cll_V (args := [.int x4]) (n := 1) (by decide +kernel) rfl rfl cd_o68 (by decide +kernel) (Nat.le_of_ble_eq_true rfl) (Nat.le_of_ble_eq_true rfl)) (CM_182 hX hIq1 hv6 (hR3q1)) (fun q7a q7b q7c q7d hqq7 => ?_)
    obtain ⟨A8, rq7, eq7, hIq7, hFq7, kq7⟩ := hqq7
    cases eq7
    refine ⟨rfl, rfl, ?_⟩
    show pmE pg X pg_tyl pg_cl (d + 7) 181 23 [.ref 0, .int x1, .int x2, .int x3, .int x4] [.int rq7] (cd f2 A8 R4 wr) _
    exact pe_iret (by decide +kernel) rfl rfl ⟨f2, A8, R4, rq7, rfl, hIq7, (fun k n529 n530 n1095 => (hGq1 k n529 n530 n1095)), (fun k n39 n40 n41 n74 n75 n76 n77 n80 n81 n82 => ((hFq7 k n75 n76 n80 n81 n82)).trans ((hFq1 k n39 n40 n41 n74 n77))), (fun k n0 n3 => (hHq1 k n0 n3)), ⟨trivial, trivial⟩⟩
set_option maxRecDepth 100000 in
set_option maxHeartbeats 8000000 in
theorem CM_183 {X : pm_X} {d : Nat} {wr : pm_W} {f : Nat → Int32} {A : Nat → List Int32} {R : Nat → Value} {x1 : Int32} (hX : XO X) (hI : CI f A R) : pmE pg X pg_tyl pg_cl (d + 6) 183 0 (pm_ent (pm_max pg 183) [.ref 0, .int x1]) [] (cd f A R wr) (fun q => ∃ (f' : Nat → Int32) (A' : Nat → List Int32) (R' : Nat → Value) (r : Int32), q = (some (.int r), cd f' A' R' wr, 0, 0) ∧ CI f' A' R' ∧ (∀ k : Nat, k ≠ 1095 → f' k = f k) ∧ (∀ k : Nat, k ≠ 74 → k ≠ 75 → k ≠ 76 → k ≠ 77 → k ≠ 80 → k ≠ 81 → k ≠ 82 → A' k = A k) ∧ (∀ k : Nat, k ≠ 3 → R' k = R k) ∧ (((r.toInt ≤ 99) ∧ True))) := by
  show pmE pg X pg_tyl pg_cl (d + 6) 183 0 [.ref 0, .int x1, pm_dead] [] (cd f A R wr) _
  refine pe_aload_n (j := 0) (by decide +kernel) rfl ?_
  refine pe_get (j := 12) (ci := 11) (n := 0) (by decide +kernel) (by decide +kernel) cd_o0 rfl ?_
  refine pe_iload_n (j := 1) (by decide +kernel) rfl ?_
  refine pz_callV (j := 111) (mj := 60) (by decide +kernel) (cll_V (args := [.int x1]) (n := 1) (by decide +kernel) rfl rfl cd_o1 (by decide +kernel) (Nat.le_of_ble_eq_true rfl) (Nat.le_of_ble_eq_true rfl)) (CM_atV hI) (fun q1a q1b q1c q1d hqq1 => ?_)
  obtain ⟨rq1, eq1, kq1⟩ := hqq1
  cases eq1
  rcases kq1 with rfl | ⟨v5, hv5, rfl⟩
  · skip
    refine ⟨rfl, rfl, ?_⟩
    show pmE pg X pg_tyl pg_cl (d + 6) 183 8 [.ref 0, .int x1, pm_dead] [.null] (cd f A R wr) _
    refine pe_astoreN_n (j := 2) (ls' := [.ref 0, .int x1, .null]) (by decide +kernel) (Nat.le_of_ble_eq_true rfl) rfl ?_
    refine pe_aloadN_n (j := 2) (by decide +kernel) rfl ?_
    refine pe_ifnonnullN (off := 5) (by decide +kernel) ?_
    refine pe_iconstv (n := (-1)) (v := (-1)) (by decide +kernel) (by decide +kernel) ?_
    exact pe_iret (by decide +kernel) rfl rfl ⟨f, A, R, (-1), rfl, hI, (fun k n1095 => rfl), (fun k n74 n75 n76 n77 n80 n81 n82 => rfl), (fun k n3 => rfl), ⟨(by decide +kernel), trivial⟩⟩
  · skip
    have bv5 := VV_b hv5
    refine ⟨rfl, rfl, ?_⟩
    show pmE pg X pg_tyl pg_cl (d + 6) 183 8 [.ref 0, .int x1, pm_dead] [.ref v5] (cd f A R wr) _
    refine pe_astore_n (j := 2) (ls' := [.ref 0, .int x1, .ref v5]) (by decide +kernel) (Nat.le_of_ble_eq_true rfl) rfl ?_
    refine pe_aload_n (j := 2) (by decide +kernel) rfl ?_
    refine pe_ifnonnull (off := 5) (t := 15) (by decide +kernel) (by decide) rfl ?_
    refine pe_aload_n (j := 0) (by decide +kernel) rfl ?_
    refine pe_get (j := 55) (ci := 11) (n := 7) (by decide +kernel) (by decide +kernel) cd_o0 rfl ?_
    refine pe_aload_n (j := 2) (by decide +kernel) rfl ?_
    refine pz_callV (j := 369) (mj := 184) (by decide +kernel) (cll_V (args := [.ref v5]) (n := 1) (by decide +kernel) rfl rfl cd_o68 (by decide +kernel) (Nat.le_of_ble_eq_true rfl) (Nat.le_of_ble_eq_true rfl)) (CM_184 hX hI hv5) (fun q2a q2b q2c q2d hqq2 => ?_)
    obtain ⟨f3, A4, R5, rq2, eq2, hIq2, hGq2, hFq2, hHq2, kq2⟩ := hqq2
    cases eq2
    refine ⟨rfl, rfl, ?_⟩
    show pmE pg X pg_tyl pg_cl (d + 6) 183 23 [.ref 0, .int x1, .ref v5] [.int rq2] (cd f3 A4 R5 wr) _
    exact pe_iret (by decide +kernel) rfl rfl ⟨f3, A4, R5, rq2, rfl, hIq2, (fun k n1095 => (hGq2 k n1095)), (fun k n74 n75 n76 n77 n80 n81 n82 => (hFq2 k n74 n75 n76 n77 n80 n81 n82)), (fun k n3 => (hHq2 k n3)), ⟨(by omega), trivial⟩⟩
set_option maxRecDepth 100000 in
set_option maxHeartbeats 8000000 in
theorem CM_186 {X : pm_X} {d : Nat} {wr : pm_W} {f : Nat → Int32} {A : Nat → List Int32} {R : Nat → Value} {x1 x2 x3 : Int32} (hX : XO X) (hI : CI f A R) : pmE pg X pg_tyl pg_cl (d + 11) 186 0 (pm_ent (pm_max pg 186) [.ref 0, .int x1, .int x2, .int x3]) [] (cd f A R wr) (fun q => ∃ (f' : Nat → Int32) (A' : Nat → List Int32) (R' : Nat → Value) (r : Int32), q = (some (.int r), cd f' A' R' wr, 0, 0) ∧ CI f' A' R' ∧ (∀ k : Nat, k ≠ 529 → k ≠ 530 → k ≠ 881 → k ≠ 882 → k ≠ 886 → k ≠ 887 → k ≠ 1095 → k ≠ 1328 → k ≠ 1329 → f' k = f k) ∧ (∀ k : Nat, k ≠ 39 → k ≠ 40 → k ≠ 41 → k ≠ 65 → k ≠ 66 → k ≠ 67 → k ≠ 74 → k ≠ 75 → k ≠ 76 → k ≠ 77 → k ≠ 80 → k ≠ 81 → k ≠ 82 → k ≠ 84 → A' k = A k) ∧ (∀ k : Nat, k ≠ 0 → k ≠ 2 → k ≠ 3 → k ≠ 5 → R' k = R k) ∧ ((True ∧ True))) := by
  show pmE pg X pg_tyl pg_cl (d + 11) 186 0 [.ref 0, .int x1, .int x2, .int x3, pm_dead] [] (cd f A R wr) _
  refine pe_aload_n (j := 0) (by decide +kernel) rfl ?_
  refine pe_iload_n (j := 1) (by decide +kernel) rfl ?_
  refine pe_iload_n (j := 2) (by decide +kernel) rfl ?_
  refine pe_iload_n (j := 3) (by decide +kernel) rfl ?_
  refine pz_callV (j := 351) (mj := 173) (by decide +kernel) (cll_V (args := [.int x3, .int x2, .int x1]) (n := 3) (by decide +kernel) rfl rfl cd_o0 (by decide +kernel) (Nat.le_of_ble_eq_true rfl) (Nat.le_of_ble_eq_true rfl)) (CM_173 hX hI) (fun q1a q1b q1c q1d hqq1 => ?_)
  obtain ⟨f2, A3, R4, rq1, eq1, hIq1, hGq1, hFq1, hHq1, kq1⟩ := hqq1
  cases eq1
  refine ⟨rfl, rfl, ?_⟩
  rcases kq1 with kq1 | kq1
  · skip
    obtain ⟨erq1, kq1⟩ := kq1
    subst erq1
    show pmE pg X pg_tyl pg_cl (d + 11) 186 7 [.ref 0, .int x1, .int x2, .int x3, pm_dead] [.int 0] (cd f2 A3 R4 wr) _
    refine pz_if_ne (off := 6) (t := 13) (by decide +kernel) (by decide) rfl kz_0 (fun h5 => by omega) (fun h5 => ?_)
    refine pe_ldc (j := 196) (v := (-100000)) (by decide +kernel) (by decide +kernel) ?_
    exact pe_iret (by decide +kernel) rfl rfl ⟨f2, A3, R4, (-100000), rfl, hIq1, (fun k n529 n530 n881 n882 n886 n887 n1095 n1328 n1329 => (hGq1 k n529 n530 n1095)), (fun k n39 n40 n41 n65 n66 n67 n74 n75 n76 n77 n80 n81 n82 n84 => (hFq1 k n39 n40 n41 n74 n77)), (fun k n0 n2 n3 n5 => (hHq1 k n0 n3)), ⟨trivial, trivial⟩⟩
  · skip
    obtain ⟨erq1, kq1⟩ := kq1
    subst erq1
    obtain ⟨⟨v4, hv4, hR0q1, hR3q1⟩, kq1⟩ := kq1
    have bv4 := VV_b hv4
    show pmE pg X pg_tyl pg_cl (d + 11) 186 7 [.ref 0, .int x1, .int x2, .int x3, pm_dead] [.int 1] (cd f2 A3 R4 wr) _
    refine pz_if_ne (off := 6) (t := 13) (by decide +kernel) (by decide) rfl kz_1 (fun h6 => ?_) (fun h6 => by omega)
    refine pe_aload_n (j := 0) (by decide +kernel) rfl ?_
    refine pe_get (j := 55) (ci := 11) (n := 7) (by decide +kernel) (by decide +kernel) cd_o0 rfl ?_
    refine pe_iconstv (n := 0) (v := 0) (by decide +kernel) (by decide +kernel) ?_
    refine pz_callV (j := 360) (mj := 178) (by decide +kernel) (cll_V (args := [.int 0]) (n := 1) (by decide +kernel) rfl rfl cd_o68 (by decide +kernel) (Nat.le_of_ble_eq_true rfl) (Nat.le_of_ble_eq_true rfl)) (CM_178 hX hIq1 hv4 (hR3q1)) (fun q7a q7b q7c q7d hqq7 => ?_)
    obtain ⟨A8, rq7, eq7, hIq7, hFq7, kq7⟩ := hqq7
    cases eq7
    refine ⟨rfl, rfl, ?_⟩
    show pmE pg X pg_tyl pg_cl (d + 11) 186 21 [.ref 0, .int x1, .int x2, .int x3, pm_dead] [.int rq7] (cd f2 A8 R4 wr) _
    refine pe_istore (j := 4) (ls' := [.ref 0, .int x1, .int x2, .int x3, .int rq7]) (by decide +kernel) (Nat.le_of_ble_eq_true rfl) rfl ?_
    refine pe_aload_n (j := 0) (by decide +kernel) rfl ?_
    refine pe_get (j := 62) (ci := 11) (n := 8) (by decide +kernel) (by decide +kernel) cd_o0 rfl ?_
    refine pe_aload_n (j := 0) (by decide +kernel) rfl ?_
    refine pe_get (j := 34) (ci := 11) (n := 4) (by decide +kernel) (by decide +kernel) cd_o0 rfl ?_
    refine pe_aload_n (j := 0) (by decide +kernel) rfl ?_
    refine pe_get (j := 48) (ci := 11) (n := 6) (by decide +kernel) (by decide +kernel) cd_o0 rfl ?_
    refine pe_iconstv (n := 0) (v := 0) (by decide +kernel) (by decide +kernel) ?_
    refine pz_callV (j := 320) (mj := 156) (by decide +kernel) (cll_V (args := [.int 0, .ref 55, .ref 33]) (n := 3) (by decide +kernel) rfl rfl cd_o83 (by decide +kernel) (Nat.le_of_ble_eq_true rfl) (Nat.le_of_ble_eq_true rfl)) (CM_156 hX hIq7 hv4 (hR0q1)) (fun q9a q9b q9c q9d hqq9 => ?_)
    obtain ⟨f10, A11, R12, eq9, hIq9, hGq9, hFq9, hHq9, kq9⟩ := hqq9
    cases eq9
    refine ⟨rfl, rfl, ?_⟩
    show pmE pg X pg_tyl pg_cl (d + 11) 186 39 [.ref 0, .int x1, .int x2, .int x3, .int rq7] [] (cd f10 A11 R12 wr) _
    refine pe_iload (j := 4) (by decide +kernel) rfl ?_
    refine pe_aload_n (j := 0) (by decide +kernel) rfl ?_
    refine pe_get (j := 62) (ci := 11) (n := 8) (by decide +kernel) (by decide +kernel) cd_o0 rfl ?_
    refine pe_get (j := 327) (ci := 3) (n := 1) (by decide +kernel) (by decide +kernel) cd_o83 rfl ?_
    refine pw_sub (by decide +kernel) (fun z13 => ?_)
    exact pe_iret (by decide +kernel) rfl rfl ⟨f10, A11, R12, z13, rfl, hIq9, (fun k n529 n530 n881 n882 n886 n887 n1095 n1328 n1329 => ((hGq9 k n530 n881 n882 n886 n887 n1328 n1329)).trans ((hGq1 k n529 n530 n1095))), (fun k n39 n40 n41 n65 n66 n67 n74 n75 n76 n77 n80 n81 n82 n84 => ((hFq9 k n39 n40 n65 n66 n67 n84)).trans (((hFq7 k n75 n76 n80 n81 n82)).trans ((hFq1 k n39 n40 n41 n74 n77)))), (fun k n0 n2 n3 n5 => ((hHq9 k n2 n5)).trans ((hHq1 k n0 n3))), ⟨trivial, trivial⟩⟩
set_option maxRecDepth 100000 in
set_option maxHeartbeats 8000000 in
theorem CM_187 {X : pm_X} {d : Nat} {wr : pm_W} {f : Nat → Int32} {A : Nat → List Int32} {R : Nat → Value} {x1 x2 x3 x4 x5 : Int32} (hX : XO X) (hI : CI f A R) : pmE pg X pg_tyl pg_cl (d + 7) 187 0 (pm_ent (pm_max pg 187) [.ref 0, .int x1, .int x2, .int x3, .int x4, .int x5]) [] (cd f A R wr) (fun q => ∃ (f' : Nat → Int32) (A' : Nat → List Int32) (R' : Nat → Value) (r : Int32), q = (some (.int r), cd f' A' R' wr, 0, 0) ∧ CI f' A' R' ∧ (∀ k : Nat, k ≠ 529 → k ≠ 530 → k ≠ 1095 → k ≠ 1096 → f' k = f k) ∧ (∀ k : Nat, k ≠ 39 → k ≠ 40 → k ≠ 41 → k ≠ 74 → k ≠ 75 → k ≠ 76 → k ≠ 77 → k ≠ 78 → k ≠ 80 → k ≠ 81 → k ≠ 82 → A' k = A k) ∧ (∀ k : Nat, k ≠ 0 → k ≠ 3 → R' k = R k) ∧ ((True ∧ True))) := by
  show pmE pg X pg_tyl pg_cl (d + 7) 187 0 [.ref 0, .int x1, .int x2, .int x3, .int x4, .int x5] [] (cd f A R wr) _
  refine pe_iload (j := 4) (by decide +kernel) rfl ?_
  refine pe_iload (j := 5) (by decide +kernel) rfl ?_
  have lw2 := zi_lo x4
  have uw2 := zi_hi x4
  have lw3 := zi_lo x5
  have uw3 := zi_hi x5
  refine pz_icmp_eq (off := 17) (t := 21) (by decide +kernel) (by decide) rfl rfl rfl (fun h1 => ?_) (fun h1 => ?_)
  · skip
    refine pe_iconstv (n := (-1)) (v := (-1)) (by decide +kernel) (by decide +kernel) ?_
    exact pe_iret (by decide +kernel) rfl rfl ⟨f, A, R, (-1), rfl, hI, (fun k n529 n530 n1095 n1096 => rfl), (fun k n39 n40 n41 n74 n75 n76 n77 n78 n80 n81 n82 => rfl), (fun k n0 n3 => rfl), ⟨trivial, trivial⟩⟩
  · skip
    refine pe_aload_n (j := 0) (by decide +kernel) rfl ?_
    refine pe_iload_n (j := 1) (by decide +kernel) rfl ?_
    refine pe_iload_n (j := 2) (by decide +kernel) rfl ?_
    refine pe_iload_n (j := 3) (by decide +kernel) rfl ?_
    refine pe_iload (j := 4) (by decide +kernel) rfl ?_
    refine pe_iload (j := 5) (by decide +kernel) rfl ?_
    refine pz_callV (j := 182) (mj := 97) (by decide +kernel) (cll_V (args := [.int x5, .int x4, .int x3, .int x2, .int x1]) (n := 5) (by decide +kernel) rfl rfl cd_o0 (by decide +kernel) (Nat.le_of_ble_eq_true rfl) (Nat.le_of_ble_eq_true rfl)) (CM_97 hX hI) (fun q4a q4b q4c q4d hqq4 => ?_)
    obtain ⟨f5, A6, R7, rq4, eq4, hIq4, hGq4, hFq4, hHq4, kq4⟩ := hqq4
    cases eq4
    refine ⟨rfl, rfl, ?_⟩
    rcases kq4 with kq4 | kq4
    · skip
      obtain ⟨erq4, kq4⟩ := kq4
      subst erq4
      show pmE pg X pg_tyl pg_cl (d + 7) 187 18 [.ref 0, .int x1, .int x2, .int x3, .int x4, .int x5] [.int 0] (cd f5 A6 R7 wr) _
      refine pz_if_ne (off := 5) (t := 23) (by decide +kernel) (by decide) rfl kz_0 (fun h8 => by omega) (fun h8 => ?_)
      refine pe_iconstv (n := (-1)) (v := (-1)) (by decide +kernel) (by decide +kernel) ?_
      exact pe_iret (by decide +kernel) rfl rfl ⟨f5, A6, R7, (-1), rfl, hIq4, (fun k n529 n530 n1095 n1096 => (hGq4 k n529 n530)), (fun k n39 n40 n41 n74 n75 n76 n77 n78 n80 n81 n82 => (hFq4 k n39 n40 n41)), (fun k n0 n3 => (hHq4 k n0)), ⟨trivial, trivial⟩⟩
    · skip
      obtain ⟨erq4, kq4⟩ := kq4
      subst erq4
      obtain ⟨⟨v15, hv15, hR0q4⟩, kq4⟩ := kq4
      have bv15 := VV_b hv15
      show pmE pg X pg_tyl pg_cl (d + 7) 187 18 [.ref 0, .int x1, .int x2, .int x3, .int x4, .int x5] [.int 1] (cd f5 A6 R7 wr) _
      refine pz_if_ne (off := 5) (t := 23) (by decide +kernel) (by decide) rfl kz_1 (fun h9 => ?_) (fun h9 => by omega)
      refine pe_aload_n (j := 0) (by decide +kernel) rfl ?_
      refine pe_get (j := 55) (ci := 11) (n := 7) (by decide +kernel) (by decide +kernel) cd_o0 rfl ?_
      refine pe_aload_n (j := 0) (by decide +kernel) rfl ?_
      refine pe_get (j := 34) (ci := 11) (n := 4) (by decide +kernel) (by decide +kernel) cd_o0 rfl ?_
      refine pz_callV (j := 338) (mj := 159) (by decide +kernel) (cll_V (args := [.ref 33]) (n := 1) (by decide +kernel) rfl rfl cd_o68 (by decide +kernel) (Nat.le_of_ble_eq_true rfl) (Nat.le_of_ble_eq_true rfl)) (CM_159 hX hIq4 hv15 (hR0q4)) (fun q10a q10b q10c q10d hqq10 => ?_)
      obtain ⟨f11, A12, R13, eq10, hIq10, hGq10, hFq10, hHq10, hS3q10, kq10⟩ := hqq10
      cases eq10
      refine ⟨rfl, rfl, ?_⟩
      show pmE pg X pg_tyl pg_cl (d + 7) 187 34 [.ref 0, .int x1, .int x2, .int x3, .int x4, .int x5] [] (cd f11 A12 R13 wr) _
      refine pe_aload_n (j := 0) (by decide +kernel) rfl ?_
      refine pe_get (j := 55) (ci := 11) (n := 7) (by decide +kernel) (by decide +kernel) cd_o0 rfl ?_
      refine pz_callV (j := 373) (mj := 188) (by decide +kernel) (cll_V (args := []) (n := 0) (by decide +kernel) rfl rfl cd_o68 (by decide +kernel) (Nat.le_of_ble_eq_true rfl) (Nat.le_of_ble_eq_true rfl)) (CM_188 hX hIq10 hv15 (hS3q10)) (fun q14a q14b q14c q14d hqq14 => ?_)
      obtain ⟨f15, A16, eq14, hIq14, hGq14, hFq14, kq14⟩ := hqq14
      cases eq14
      refine ⟨rfl, rfl, ?_⟩
      show pmE pg X pg_tyl pg_cl (d + 7) 187 41 [.ref 0, .int x1, .int x2, .int x3, .int x4, .int x5] [] (cd f15 A16 R13 wr) _
      refine pe_aload_n (j := 0) (by decide +kernel) rfl ?_
      refine pe_get (j := 55) (ci := 11) (n := 7) (by decide +kernel) (by decide +kernel) cd_o0 rfl ?_
      refine pe_iload (j := 4) (by decide +kernel) rfl ?_
      refine pe_iload (j := 5) (by decide +kernel) rfl ?_
      refine pz_callV (j := 376) (mj := 189) (by decide +kernel) (cll_V (args := [.int x5, .int x4]) (n := 2) (by decide +kernel) rfl rfl cd_o68 (by decide +kernel) (Nat.le_of_ble_eq_true rfl) (Nat.le_of_ble_eq_true rfl)) (CM_189 hX hIq14 hv15 (hS3q10) (by omega) (by omega)) (fun q17a q17b q17c q17d hqq17 => ?_)
      obtain ⟨A18, rq17, eq17, hIq17, hFq17, kq17⟩ := hqq17
      cases eq17
      refine ⟨rfl, rfl, ?_⟩
      show pmE pg X pg_tyl pg_cl (d + 7) 187 52 [.ref 0, .int x1, .int x2, .int x3, .int x4, .int x5] [.int rq17] (cd f15 A18 R13 wr) _
      exact pe_iret (by decide +kernel) rfl rfl ⟨f15, A18, R13, rq17, rfl, hIq17, (fun k n529 n530 n1095 n1096 => ((hGq14 k n1096)).trans (((hGq10 k n1095)).trans ((hGq4 k n529 n530)))), (fun k n39 n40 n41 n74 n75 n76 n77 n78 n80 n81 n82 => ((hFq17 k n74 n75 n76 n80 n81 n82)).trans (((hFq14 k n75 n76 n78 n80 n81 n82)).trans (((hFq10 k n74 n77)).trans ((hFq4 k n39 n40 n41))))), (fun k n0 n3 => ((hHq10 k n3)).trans ((hHq4 k n0))), ⟨trivial, trivial⟩⟩
set_option maxRecDepth 100000 in
set_option maxHeartbeats 8000000 in
theorem CM_190 {X : pm_X} {d : Nat} {wr : pm_W} {f : Nat → Int32} {A : Nat → List Int32} {R : Nat → Value} {x1 x2 x3 x4 : Int32} (hX : XO X) (hI : CI f A R) : pmE pg X pg_tyl pg_cl (d + 7) 190 0 (pm_ent (pm_max pg 190) [.ref 0, .int x1, .int x2, .int x3, .int x4]) [] (cd f A R wr) (fun q => ∃ (f' : Nat → Int32) (A' : Nat → List Int32) (R' : Nat → Value) (r : Int32), q = (some (.int r), cd f' A' R' wr, 0, 0) ∧ CI f' A' R' ∧ (∀ k : Nat, k ≠ 529 → k ≠ 530 → k ≠ 1095 → k ≠ 1096 → f' k = f k) ∧ (∀ k : Nat, k ≠ 39 → k ≠ 40 → k ≠ 41 → k ≠ 74 → k ≠ 75 → k ≠ 76 → k ≠ 77 → k ≠ 78 → k ≠ 80 → k ≠ 81 → k ≠ 82 → A' k = A k) ∧ (∀ k : Nat, k ≠ 0 → k ≠ 3 → R' k = R k) ∧ ((((-1) ≤ r.toInt ∧ r.toInt ≤ 238609294) ∧ True))) := by
  show pmE pg X pg_tyl pg_cl (d + 7) 190 0 [.ref 0, .int x1, .int x2, .int x3, .int x4, pm_dead] [] (cd f A R wr) _
  refine pe_aload_n (j := 0) (by decide +kernel) rfl ?_
  refine pe_iload_n (j := 1) (by decide +kernel) rfl ?_
  refine pe_iload_n (j := 2) (by decide +kernel) rfl ?_
  refine pe_iload_n (j := 3) (by decide +kernel) rfl ?_
  refine pz_callV (j := 351) (mj := 173) (by decide +kernel) (cll_V (args := [.int x3, .int x2, .int x1]) (n := 3) (by decide +kernel) rfl rfl cd_o0 (by decide +kernel) (Nat.le_of_ble_eq_true rfl) (Nat.le_of_ble_eq_true rfl)) (CM_173 hX hI) (fun q1a q1b q1c q1d hqq1 => ?_)
  obtain ⟨f2, A3, R4, rq1, eq1, hIq1, hGq1, hFq1, hHq1, kq1⟩ := hqq1
  cases eq1
  refine ⟨rfl, rfl, ?_⟩
  rcases kq1 with kq1 | kq1
  · skip
    obtain ⟨erq1, kq1⟩ := kq1
    subst erq1
    show pmE pg X pg_tyl pg_cl (d + 7) 190 7 [.ref 0, .int x1, .int x2, .int x3, .int x4, pm_dead] [.int 0] (cd f2 A3 R4 wr) _
    refine pz_if_ne (off := 5) (t := 12) (by decide +kernel) (by decide) rfl kz_0 (fun h5 => by omega) (fun h5 => ?_)
    refine pe_iconstv (n := (-1)) (v := (-1)) (by decide +kernel) (by decide +kernel) ?_
    exact pe_iret (by decide +kernel) rfl rfl ⟨f2, A3, R4, (-1), rfl, hIq1, (fun k n529 n530 n1095 n1096 => (hGq1 k n529 n530 n1095)), (fun k n39 n40 n41 n74 n75 n76 n77 n78 n80 n81 n82 => (hFq1 k n39 n40 n41 n74 n77)), (fun k n0 n3 => (hHq1 k n0 n3)), ⟨(by decide +kernel), trivial⟩⟩
  · skip
    obtain ⟨erq1, kq1⟩ := kq1
    subst erq1
    obtain ⟨⟨v4, hv4, hR0q1, hR3q1⟩, kq1⟩ := kq1
    have bv4 := VV_b hv4
    show pmE pg X pg_tyl pg_cl (d + 7) 190 7 [.ref 0, .int x1, .int x2, .int x3, .int x4, pm_dead] [.int 1] (cd f2 A3 R4 wr) _
    refine pz_if_ne (off := 5) (t := 12) (by decide +kernel) (by decide) rfl kz_1 (fun h6 => ?_) (fun h6 => by omega)
    refine pe_aload_n (j := 0) (by decide +kernel) rfl ?_
    refine pe_get (j := 55) (ci := 11) (n := 7) (by decide +kernel) (by decide +kernel) cd_o0 rfl ?_
    refine pz_callV (j := 373) (mj := 188) (by decide +kernel) (cll_V (args := []) (n := 0) (by decide +kernel) rfl rfl cd_o68 (by decide +kernel) (Nat.le_of_ble_eq_true rfl) (Nat.le_of_ble_eq_true rfl)) (CM_188 hX hIq1 hv4 (hR3q1)) (fun q7a q7b q7c q7d hqq7 => ?_)
    obtain ⟨f8, A9, eq7, hIq7, hGq7, hFq7, kq7⟩ := hqq7
    cases eq7
    refine ⟨rfl, rfl, ?_⟩
    show pmE pg X pg_tyl pg_cl (d + 7) 190 19 [.ref 0, .int x1, .int x2, .int x3, .int x4, pm_dead] [] (cd f8 A9 R4 wr) _
    refine pe_aload_n (j := 0) (by decide +kernel) rfl ?_
    refine pe_get (j := 55) (ci := 11) (n := 7) (by decide +kernel) (by decide +kernel) cd_o0 rfl ?_
    refine pz_callV (j := 379) (mj := 191) (by decide +kernel) (cll_V (args := []) (n := 0) (by decide +kernel) rfl rfl cd_o68 (by decide +kernel) (Nat.le_of_ble_eq_true rfl) (Nat.le_of_ble_eq_true rfl)) (CM_191 hX hIq7 hv4 (hR3q1)) (fun q10a q10b q10c q10d hqq10 => ?_)
    obtain ⟨A11, rq10, eq10, hIq10, hFq10, kq10⟩ := hqq10
    cases eq10
    refine ⟨rfl, rfl, ?_⟩
    show pmE pg X pg_tyl pg_cl (d + 7) 190 26 [.ref 0, .int x1, .int x2, .int x3, .int x4, pm_dead] [.int rq10] (cd f8 A11 R4 wr) _
    refine pe_istore (j := 5) (ls' := [.ref 0, .int x1, .int x2, .int x3, .int x4, .int rq10]) (by decide +kernel) (Nat.le_of_ble_eq_true rfl) rfl ?_
    refine pe_iload (j := 5) (by decide +kernel) rfl ?_
    refine pe_iconstv (n := (-1)) (v := (-1)) (by decide +kernel) (by decide +kernel) ?_
    have lw13 := zi_lo rq10
    have uw13 := zi_hi rq10
    refine pz_icmp_ne (off := 5) (t := 36) (by decide +kernel) (by decide) rfl rfl kz_m1 (fun h12 => ?_) (fun h12 => ?_)
    · skip
      refine pe_iload (j := 4) (by decide +kernel) rfl ?_
      have lw15 := zi_lo x4
      have uw15 := zi_hi x4
      refine pz_if_eq (off := 11) (t := 49) (by decide +kernel) (by decide) rfl rfl (fun h14 => ?_) (fun h14 => ?_)
      · skip
        refine pe_iload (j := 5) (by decide +kernel) rfl ?_
        refine pe_bipushv (n := 9) (v := 9) (by decide +kernel) (by decide +kernel) ?_
        refine pz_div (by decide +kernel) rfl kz_9 (by omega) (by omega) (fun z16 hz16 => ?_)
        exact pe_iret (by decide +kernel) rfl rfl ⟨f8, A11, R4, z16, rfl, hIq10, (fun k n529 n530 n1095 n1096 => ((hGq7 k n1096)).trans ((hGq1 k n529 n530 n1095))), (fun k n39 n40 n41 n74 n75 n76 n77 n78 n80 n81 n82 => ((hFq10 k n74 n75 n76 n80 n81 n82)).trans (((hFq7 k n75 n76 n78 n80 n81 n82)).trans ((hFq1 k n39 n40 n41 n74 n77)))), (fun k n0 n3 => (hHq1 k n0 n3)), ⟨(by omega), trivial⟩⟩
      · skip
        refine pe_iload (j := 5) (by decide +kernel) rfl ?_
        refine pe_bipushv (n := 9) (v := 9) (by decide +kernel) (by decide +kernel) ?_
        refine pz_rem (by decide +kernel) rfl kz_9 (by omega) (by omega) (fun z17 hz17 gz17 kz17 => ?_)
        refine pe_goto (off := 8) (t := 54) (by decide +kernel) (by decide) rfl ?_
        exact pe_iret (by decide +kernel) rfl rfl ⟨f8, A11, R4, z17, rfl, hIq10, (fun k n529 n530 n1095 n1096 => ((hGq7 k n1096)).trans ((hGq1 k n529 n530 n1095))), (fun k n39 n40 n41 n74 n75 n76 n77 n78 n80 n81 n82 => ((hFq10 k n74 n75 n76 n80 n81 n82)).trans (((hFq7 k n75 n76 n78 n80 n81 n82)).trans ((hFq1 k n39 n40 n41 n74 n77)))), (fun k n0 n3 => (hHq1 k n0 n3)), ⟨(by omega), trivial⟩⟩
    · skip
      refine pe_iconstv (n := (-1)) (v := (-1)) (by decide +kernel) (by decide +kernel) ?_
      exact pe_iret (by decide +kernel) rfl rfl ⟨f8, A11, R4, (-1), rfl, hIq10, (fun k n529 n530 n1095 n1096 => ((hGq7 k n1096)).trans ((hGq1 k n529 n530 n1095))), (fun k n39 n40 n41 n74 n75 n76 n77 n78 n80 n81 n82 => ((hFq10 k n74 n75 n76 n80 n81 n82)).trans (((hFq7 k n75 n76 n78 n80 n81 n82)).trans ((hFq1 k n39 n40 n41 n74 n77)))), (fun k n0 n3 => (hHq1 k n0 n3)), ⟨(by decide +kernel), trivial⟩⟩
set_option maxRecDepth 100000 in
set_option maxHeartbeats 8000000 in
theorem CM_192 {X : pm_X} {d : Nat} {wr : pm_W} {f : Nat → Int32} {A : Nat → List Int32} {R : Nat → Value} {x1 x2 x3 x4 x5 : Int32} (hX : XO X) (hI : CI f A R) : pmE pg X pg_tyl pg_cl (d + 7) 192 0 (pm_ent (pm_max pg 192) [.ref 0, .int x1, .int x2, .int x3, .int x4, .int x5]) [] (cd f A R wr) (fun q => ∃ (f' : Nat → Int32) (A' : Nat → List Int32) (R' : Nat → Value) (r : Int32), q = (some (.int r), cd f' A' R' wr, 0, 0) ∧ CI f' A' R' ∧ (∀ k : Nat, k ≠ 529 → k ≠ 530 → k ≠ 1095 → f' k = f k) ∧ (∀ k : Nat, k ≠ 39 → k ≠ 40 → k ≠ 41 → k ≠ 74 → k ≠ 77 → k ≠ 80 → k ≠ 81 → k ≠ 82 → A' k = A k) ∧ (∀ k : Nat, k ≠ 0 → k ≠ 3 → R' k = R k) ∧ ((True ∧ True))) := by
  show pmE pg X pg_tyl pg_cl (d + 7) 192 0 [.ref 0, .int x1, .int x2, .int x3, .int x4, .int x5] [] (cd f A R wr) _
  refine pe_iload (j := 4) (by decide +kernel) rfl ?_
  refine pe_iload (j := 5) (by decide +kernel) rfl ?_
  have lw2 := zi_lo x4
  have uw2 := zi_hi x4
  have lw3 := zi_lo x5
  have uw3 := zi_hi x5
  refine pz_icmp_eq (off := 17) (t := 21) (by decide +kernel) (by decide) rfl rfl rfl (fun h1 => ?_) (fun h1 => ?_)
  · skip
    refine pe_iconstv (n := (-1)) (v := (-1)) (by decide +kernel) (by decide +kernel) ?_
    exact pe_iret (by decide +kernel) rfl rfl ⟨f, A, R, (-1), rfl, hI, (fun k n529 n530 n1095 => rfl), (fun k n39 n40 n41 n74 n77 n80 n81 n82 => rfl), (fun k n0 n3 => rfl), ⟨trivial, trivial⟩⟩
  · skip
    refine pe_aload_n (j := 0) (by decide +kernel) rfl ?_
    refine pe_iload_n (j := 1) (by decide +kernel) rfl ?_
    refine pe_iload_n (j := 2) (by decide +kernel) rfl ?_
    refine pe_iload_n (j := 3) (by decide +kernel) rfl ?_
    refine pe_iload (j := 4) (by decide +kernel) rfl ?_
    refine pe_iload (j := 5) (by decide +kernel) rfl ?_
    refine pz_callV (j := 182) (mj := 97) (by decide +kernel) (cll_V (args := [.int x5, .int x4, .int x3, .int x2, .int x1]) (n := 5) (by decide +kernel) rfl rfl cd_o0 (by decide +kernel) (Nat.le_of_ble_eq_true rfl) (Nat.le_of_ble_eq_true rfl)) (CM_97 hX hI) (fun q4a q4b q4c q4d hqq4 => ?_)
    obtain ⟨f5, A6, R7, rq4, eq4, hIq4, hGq4, hFq4, hHq4, kq4⟩ := hqq4
    cases eq4
    refine ⟨rfl, rfl, ?_⟩
    rcases kq4 with kq4 | kq4
    · skip
      obtain ⟨erq4, kq4⟩ := kq4
      subst erq4
      show pmE pg X pg_tyl pg_cl (d + 7) 192 18 [.ref 0, .int x1, .int x2, .int x3, .int x4, .int x5] [.int 0] (cd f5 A6 R7 wr) _
      refine pz_if_ne (off := 5) (t := 23) (by decide +kernel) (by decide) rfl kz_0 (fun h8 => by omega) (fun h8 => ?_)
      refine pe_iconstv (n := (-1)) (v := (-1)) (by decide +kernel) (by decide +kernel) ?_
      exact pe_iret (by decide +kernel) rfl rfl ⟨f5, A6, R7, (-1), rfl, hIq4, (fun k n529 n530 n1095 => (hGq4 k n529 n530)), (fun k n39 n40 n41 n74 n77 n80 n81 n82 => (hFq4 k n39 n40 n41)), (fun k n0 n3 => (hHq4 k n0)), ⟨trivial, trivial⟩⟩
    · skip
      obtain ⟨erq4, kq4⟩ := kq4
      subst erq4
      obtain ⟨⟨v15, hv15, hR0q4⟩, kq4⟩ := kq4
      have bv15 := VV_b hv15
      show pmE pg X pg_tyl pg_cl (d + 7) 192 18 [.ref 0, .int x1, .int x2, .int x3, .int x4, .int x5] [.int 1] (cd f5 A6 R7 wr) _
      refine pz_if_ne (off := 5) (t := 23) (by decide +kernel) (by decide) rfl kz_1 (fun h9 => ?_) (fun h9 => by omega)
      refine pe_aload_n (j := 0) (by decide +kernel) rfl ?_
      refine pe_get (j := 55) (ci := 11) (n := 7) (by decide +kernel) (by decide +kernel) cd_o0 rfl ?_
      refine pe_aload_n (j := 0) (by decide +kernel) rfl ?_
      refine pe_get (j := 34) (ci := 11) (n := 4) (by decide +kernel) (by decide +kernel) cd_o0 rfl ?_
      refine pz_callV (j := 338) (mj := 159) (by decide +kernel) (cll_V (args := [.ref 33]) (n := 1) (by decide +kernel) rfl rfl cd_o68 (by decide +kernel) (Nat.le_of_ble_eq_true rfl) (Nat.le_of_ble_eq_true rfl)) (CM_159 hX hIq4 hv15 (hR0q4)) (fun q10a q10b q10c q10d hqq10 => ?_)
      obtain ⟨f11, A12, R13, eq10, hIq10, hGq10, hFq10, hHq10, hS3q10, kq10⟩ := hqq10
      cases eq10
      refine ⟨rfl, rfl, ?_⟩
      show pmE pg X pg_tyl pg_cl (d + 7) 192 34 [.ref 0, .int x1, .int x2, .int x3, .int x4, .int x5] [] (cd f11 A12 R13 wr) _
      refine pe_aload_n (j := 0) (by decide +kernel) rfl ?_
      refine pe_get (j := 55) (ci := 11) (n := 7) (by decide +kernel) (by decide +kernel) cd_o0 rfl ?_
      refine pe_iload (j := 4) (by decide +kernel) rfl ?_
      refine pe_iload (j := 5) (by decide +kernel) rfl ?_
      refine pz_callV (j := 342) (mj := 161) (by decide +kernel) (cll_V (args := [.int x5, .int x4]) (n := 2) (by decide +kernel) rfl rfl cd_o68 (by decide +kernel) (Nat.le_of_ble_eq_true rfl) (Nat.le_of_ble_eq_true rfl)) (CM_161 hX hIq10 hv15 (hS3q10) (by omega) (by omega)) (fun q14a q14b q14c q14d hqq14 => ?_)
      obtain ⟨A15, rq14, eq14, hIq14, hFq14, kq14⟩ := hqq14
      cases eq14
      refine ⟨rfl, rfl, ?_⟩
      show pmE pg X pg_tyl pg_cl (d + 7) 192 45 [.ref 0, .int x1, .int x2, .int x3, .int x4, .int x5] [.int rq14] (cd f11 A15 R13 wr) _
      exact pe_iret (by decide +kernel) rfl rfl ⟨f11, A15, R13, rq14, rfl, hIq14, (fun k n529 n530 n1095 => ((hGq10 k n1095)).trans ((hGq4 k n529 n530))), (fun k n39 n40 n41 n74 n77 n80 n81 n82 => ((hFq14 k n80 n81 n82)).trans (((hFq10 k n74 n77)).trans ((hFq4 k n39 n40 n41)))), (fun k n0 n3 => ((hHq10 k n3)).trans ((hHq4 k n0))), ⟨trivial, trivial⟩⟩
end
section
set_option maxRecDepth 100000 in
set_option maxHeartbeats 8000000 in
theorem CM_193 {X : pm_X} {d : Nat} {wr : pm_W} {f : Nat → Int32} {A : Nat → List Int32} {R : Nat → Value} {x1 x2 x3 x4 : Int32} (hX : XO X) (hI : CI f A R) : pmE pg X pg_tyl pg_cl (d + 7) 193 0 (pm_ent (pm_max pg 193) [.ref 0, .int x1, .int x2, .int x3, .int x4]) [] (cd f A R wr) (fun q => ∃ (f' : Nat → Int32) (A' : Nat → List Int32) (R' : Nat → Value) (r : Int32), q = (some (.int r), cd f' A' R' wr, 0, 0) ∧ CI f' A' R' ∧ (∀ k : Nat, k ≠ 529 → k ≠ 530 → k ≠ 1095 → f' k = f k) ∧ (∀ k : Nat, k ≠ 39 → k ≠ 40 → k ≠ 41 → k ≠ 74 → k ≠ 77 → k ≠ 80 → k ≠ 81 → k ≠ 82 → A' k = A k) ∧ (∀ k : Nat, k ≠ 0 → k ≠ 3 → R' k = R k) ∧ ((True ∧ True))) := by
  show pmE pg X pg_tyl pg_cl (d + 7) 193 0 [.ref 0, .int x1, .int x2, .int x3, .int x4, pm_dead] [] (cd f A R wr) _
  refine pe_aload_n (j := 0) (by decide +kernel) rfl ?_
  refine pe_iload_n (j := 1) (by decide +kernel) rfl ?_
  refine pe_iload_n (j := 2) (by decide +kernel) rfl ?_
  refine pe_iload_n (j := 3) (by decide +kernel) rfl ?_
  refine pz_callV (j := 351) (mj := 173) (by decide +kernel) (cll_V (args := [.int x3, .int x2, .int x1]) (n := 3) (by decide +kernel) rfl rfl cd_o0 (by decide +kernel) (Nat.le_of_ble_eq_true rfl) (Nat.le_of_ble_eq_true rfl)) (CM_173 hX hI) (fun q1a q1b q1c q1d hqq1 => ?_)
  obtain ⟨f2, A3, R4, rq1, eq1, hIq1, hGq1, hFq1, hHq1, kq1⟩ := hqq1
  cases eq1
  refine ⟨rfl, rfl, ?_⟩
  rcases kq1 with kq1 | kq1
  · skip
    obtain ⟨erq1, kq1⟩ := kq1
    subst erq1
    show pmE pg X pg_tyl pg_cl (d + 7) 193 7 [.ref 0, .int x1, .int x2, .int x3, .int x4, pm_dead] [.int 0] (cd f2 A3 R4 wr) _
    refine pz_if_ne (off := 5) (t := 12) (by decide +kernel) (by decide) rfl kz_0 (fun h5 => by omega) (fun h5 => ?_)
    refine pe_iconstv (n := (-1)) (v := (-1)) (by decide +kernel) (by decide +kernel) ?_
    exact pe_iret (by decide +kernel) rfl rfl ⟨f2, A3, R4, (-1), rfl, hIq1, (fun k n529 n530 n1095 => (hGq1 k n529 n530 n1095)), (fun k n39 n40 n41 n74 n77 n80 n81 n82 => (hFq1 k n39 n40 n41 n74 n77)), (fun k n0 n3 => (hHq1 k n0 n3)), ⟨trivial, trivial⟩⟩
  · skip
    obtain ⟨erq1, kq1⟩ := kq1
    subst erq1
    obtain ⟨⟨v4, hv4, hR0q1, hR3q1⟩, kq1⟩ := kq1
    have bv4 := VV_b hv4
    show pmE pg X pg_tyl pg_cl (d + 7) 193 7 [.ref 0, .int x1, .int x2, .int x3, .int x4, pm_dead] [.int 1] (cd f2 A3 R4 wr) _
    refine pz_if_ne (off := 5) (t := 12) (by decide +kernel) (by decide) rfl kz_1 (fun h6 => ?_) (fun h6 => by omega)
    refine pe_aload_n (j := 0) (by decide +kernel) rfl ?_
    refine pe_get (j := 55) (ci := 11) (n := 7) (by decide +kernel) (by decide +kernel) cd_o0 rfl ?_
    refine pz_callV (j := 382) (mj := 194) (by decide +kernel) (cll_V (args := []) (n := 0) (by decide +kernel) rfl rfl cd_o68 (by decide +kernel) (Nat.le_of_ble_eq_true rfl) (Nat.le_of_ble_eq_true rfl)) (CM_194 hX hIq1 hv4 (hR3q1)) (fun q7a q7b q7c q7d hqq7 => ?_)
    obtain ⟨A8, rq7, eq7, hIq7, hFq7, kq7⟩ := hqq7
    cases eq7
    refine ⟨rfl, rfl, ?_⟩
    show pmE pg X pg_tyl pg_cl (d + 7) 193 19 [.ref 0, .int x1, .int x2, .int x3, .int x4, pm_dead] [.int rq7] (cd f2 A8 R4 wr) _
    refine pe_istore (j := 5) (ls' := [.ref 0, .int x1, .int x2, .int x3, .int x4, .int rq7]) (by decide +kernel) (Nat.le_of_ble_eq_true rfl) rfl ?_
    refine pe_iload (j := 4) (by decide +kernel) rfl ?_
    have lw10 := zi_lo x4
    have uw10 := zi_hi x4
    refine pz_if_eq (off := 11) (t := 34) (by decide +kernel) (by decide) rfl rfl (fun h9 => ?_) (fun h9 => ?_)
    · skip
      refine pe_iload (j := 5) (by decide +kernel) rfl ?_
      refine pe_bipushv (n := 9) (v := 9) (by decide +kernel) (by decide +kernel) ?_
      refine pw_div (by decide +kernel) (by decide +kernel) (fun z11 => ?_)
      exact pe_iret (by decide +kernel) rfl rfl ⟨f2, A8, R4, z11, rfl, hIq7, (fun k n529 n530 n1095 => (hGq1 k n529 n530 n1095)), (fun k n39 n40 n41 n74 n77 n80 n81 n82 => ((hFq7 k n80 n81 n82)).trans ((hFq1 k n39 n40 n41 n74 n77))), (fun k n0 n3 => (hHq1 k n0 n3)), ⟨trivial, trivial⟩⟩
    · skip
      refine pe_iload (j := 5) (by decide +kernel) rfl ?_
      refine pe_bipushv (n := 9) (v := 9) (by decide +kernel) (by decide +kernel) ?_
      refine pw_rem (by decide +kernel) (by decide +kernel) (fun z12 => ?_)
      refine pe_goto (off := 8) (t := 39) (by decide +kernel) (by decide) rfl ?_
      exact pe_iret (by decide +kernel) rfl rfl ⟨f2, A8, R4, z12, rfl, hIq7, (fun k n529 n530 n1095 => (hGq1 k n529 n530 n1095)), (fun k n39 n40 n41 n74 n77 n80 n81 n82 => ((hFq7 k n80 n81 n82)).trans ((hFq1 k n39 n40 n41 n74 n77))), (fun k n0 n3 => (hHq1 k n0 n3)), ⟨trivial, trivial⟩⟩
end
