set_option maxRecDepth 100000 in
set_option maxHeartbeats 8000000 in
theorem CL_29_1_39 {X : pm_X} {d : Nat} {wr : pm_W} {Q : pm_R → Prop} {f0 : Nat → Int32} {A0 : Nat → List Int32} {R : Nat → Value} {x2 : Int32} (hX : XO X) (hR4 : R 4 = .ref 4) (gx2 : (0 ≤ x2.toInt ∧ x2.toInt ≤ 5)) (k_107_0 : ∀ (f' : Nat → Int32) (A' : Nat → List Int32) (y3 : Int32) (y4 : Int32), CI f' A' R → (∀ k : Nat, k ≠ 373 → k ≠ 374 → k ≠ 375 → k ≠ 376 → k ≠ 378 → k ≠ 379 → f' k = f0 k) → (∀ k : Nat, k ≠ 31 → A' k = A0 k) → (0 ≤ y3.toInt ∧ y3.toInt ≤ 600) → (0 ≤ y4.toInt ∧ y4.toInt ≤ 600) → (y3.toInt + (-1) * y4.toInt) ≤ 0 → NB (f' 378).toInt x2.toInt y3.toInt (A' 31) → pmE pg X pg_tyl pg_cl (d + 7) 29 107 [.ref 23, .int 1, .int x2, .int y3, .int y4] [] (cd f' A' R wr) Q) (kr_0 : ∀ (f' : Nat → Int32) (A' : Nat → List Int32), CI f' A' R → (∀ k : Nat, k ≠ 373 → k ≠ 374 → k ≠ 375 → k ≠ 376 → k ≠ 378 → k ≠ 379 → f' k = f0 k) → (∀ k : Nat, k ≠ 31 → A' k = A0 k) → Q (some (.int 0), cd f' A' R wr, 0, 0)) : ∀ (m : Nat) (f : Nat → Int32) (A : Nat → List Int32) (x3 : Int32) (x4 : Int32), CI f A R → (∀ k : Nat, k ≠ 373 → k ≠ 374 → k ≠ 375 → k ≠ 376 → k ≠ 378 → k ≠ 379 → f k = f0 k) → (∀ k : Nat, k ≠ 31 → A k = A0 k) → (0 ≤ x3.toInt ∧ x3.toInt ≤ 600) → (0 ≤ x4.toInt ∧ x4.toInt ≤ 600) → (x3.toInt + (-1) * x4.toInt) ≤ 0 → NB (f 378).toInt x2.toInt x3.toInt (A 31) → 600 - x3.toInt < (m : Int) → pmE pg X pg_tyl pg_cl (d + 7) 29 39 [.ref 23, .int 1, .int x2, .int x3, .int x4] [] (cd f A R wr) Q := by
  intro m
  induction m with
  | zero =>
    intro f A x3 x4 hI hG hF gx3 gx4 hxi0 hpi0 hm
    exfalso
    have l0 := zi_lo x3
    have u0 := zi_hi x3
    omega
  | succ m ih =>
    intro f A x3 x4 hI hG hF gx3 gx4 hxi0 hpi0 hm
    refine pe_iload (j := 4) (by decide +kernel) rfl ?_
    refine pe_aload_n (j := 0) (by decide +kernel) rfl ?_
    refine pe_get (j := 43) (ci := 4) (n := 4) (by decide +kernel) (by decide +kernel) cd_o23 rfl ?_
    have hr_f_372 := cf_372 hI
    refine pz_icmp_ge (off := 62) (t := 107) (by decide +kernel) (by decide) rfl rfl rfl (fun h1 => ?_) (fun h1 => ?_)
    · skip
      exact k_107_0 f A x3 x4 hI (fun k n373 n374 n375 n376 n378 n379 => (hG k n373 n374 n375 n376 n378 n379)) (fun k n31 => (hF k n31)) (by omega) (by omega) (by omega) hpi0
    · skip
      refine pe_aload_n (j := 0) (by decide +kernel) rfl ?_
      refine pe_get (j := 62) (ci := 4) (n := 6) (by decide +kernel) (by decide +kernel) cd_o23 rfl ?_
      have hr_f_374 := cf_374 hI
      refine pe_iconstv (n := 2) (v := 2) (by decide +kernel) (by decide +kernel) ?_
      refine pz_icmp_ne (off := 54) (t := 107) (by decide +kernel) (by decide) rfl rfl kz_2 (fun h2 => ?_) (fun h2 => ?_)
      · skip
        exact k_107_0 f A x3 x4 hI (fun k n373 n374 n375 n376 n378 n379 => (hG k n373 n374 n375 n376 n378 n379)) (fun k n31 => (hF k n31)) (by omega) (by omega) (by omega) hpi0
      · skip
        refine pe_iload_n (j := 3) (by decide +kernel) rfl ?_
        refine pe_getstatic (j := 86) (v := .retAddr 1) (by decide +kernel) (by decide +kernel) ?_
        refine pe_iload_n (j := 2) (by decide +kernel) rfl ?_
        refine pz_ialdX (n := 13) (by decide +kernel) (hX 1 (by decide +kernel)) rfl rfl (by omega) (by omega) (fun v3 ev3 => ?_)
        have rv3 : 0 ≤ v3.toInt ∧ v3.toInt ≤ 4 := by rw [ev3]; exact lt_all (by decide +kernel) (by decide) _
        refine pz_icmp_lt (off := 10) (t := 72) (by decide +kernel) (by decide) rfl rfl rfl (fun h4 => ?_) (fun h4 => ?_)
        · skip
          refine pe_aload_n (j := 0) (by decide +kernel) rfl ?_
          refine pe_iload_n (j := 2) (by decide +kernel) rfl ?_
          refine pe_iload_n (j := 3) (by decide +kernel) rfl ?_
          refine pz_callV (j := 89) (mj := 47) (by decide +kernel) (cll_V (args := [.int x3, .int x2]) (n := 2) (by decide +kernel) rfl rfl cd_o23 (by decide +kernel) (Nat.le_of_ble_eq_true rfl) (Nat.le_of_ble_eq_true rfl)) (CM_47 hX hI (by omega) (by omega)) (fun q5a q5b q5c q5d hqq5 => ?_)
          obtain ⟨f6, eq5, hIq5, hGq5, kq5⟩ := hqq5
          cases eq5
          refine ⟨rfl, rfl, ?_⟩
          obtain ⟨hp7, kq5⟩ := kq5
          show pmE pg X pg_tyl pg_cl (d + 7) 29 78 [.ref 23, .int 1, .int x2, .int x3, .int x4] [] (cd f6 A R wr) _
          refine pe_iload_n (j := 3) (by decide +kernel) rfl ?_
          refine pe_bipushv (n := 8) (v := 8) (by decide +kernel) (by decide +kernel) ?_
          refine pz_icmp_ge (off := 13) (t := 94) (by decide +kernel) (by decide) rfl rfl kz_8 (fun h8 => by omega) (fun h8 => ?_)
          refine pe_aload_n (j := 0) (by decide +kernel) rfl ?_
          refine pe_get (j := 25) (ci := 4) (n := 2) (by decide +kernel) (by decide +kernel) cd_o23 rfl ?_
          refine pe_iload_n (j := 3) (by decide +kernel) rfl ?_
          refine pe_aload_n (j := 0) (by decide +kernel) rfl ?_
          refine pe_get (j := 92) (ci := 4) (n := 8) (by decide +kernel) (by decide +kernel) cd_o23 rfl ?_
          refine pe_top (v := (f 376)) ((hGq5 376 (by decide) (by decide))) ?_
          refine cz_st31 (by decide +kernel) hIq5 rfl (by omega) (by omega) (fun A9 eA9 hIA9 => ?_)
          refine pz_iinc (j := 3) (n := 1) (by decide +kernel) rfl rfl (by decide +kernel) (by omega) (by omega) (fun z10 hz10 => ?_)
          show pmE pg X pg_tyl pg_cl (d + 7) 29 97 [.ref 23, .int 1, .int x2, .int z10, .int x4] [] (cd f6 A9 R wr) _
          refine pe_aload_n (j := 0) (by decide +kernel) rfl ?_
          refine pz_callV (j := 59) (mj := 23) (by decide +kernel) (cll_V (args := []) (n := 0) (by decide +kernel) rfl rfl cd_o23 (by decide +kernel) (Nat.le_of_ble_eq_true rfl) (Nat.le_of_ble_eq_true rfl)) (CM_23 hX hIA9 (hR4)) (fun q11a q11b q11c q11d hqq11 => ?_)
          obtain ⟨f12, eq11, hIq11, hGq11, kq11⟩ := hqq11
          cases eq11
          refine ⟨rfl, rfl, ?_⟩
          show pmE pg X pg_tyl pg_cl (d + 7) 29 101 [.ref 23, .int 1, .int x2, .int z10, .int x4] [] (cd f12 A9 R wr) _
          refine pz_iinc (j := 4) (n := 1) (by decide +kernel) rfl rfl (by decide +kernel) (by omega) (by omega) (fun z13 hz13 => ?_)
          show pmE pg X pg_tyl pg_cl (d + 7) 29 104 [.ref 23, .int 1, .int x2, .int z10, .int z13] [] (cd f12 A9 R wr) _
          refine pe_goto (off := (-65)) (t := 39) (by decide +kernel) (by decide) rfl ?_
          exact ih f12 A9 z10 z13 hIq11 (fun k n373 n374 n375 n376 n378 n379 => ((hGq11 k n373 n374 n375 n376)).trans (((hGq5 k n378 n379)).trans ((hG k n373 n374 n375 n376 n378 n379)))) (fun k n31 => (upa_fr eA9 n31).trans ((hF k n31))) (by omega) (by omega) (by omega) (by rw [show f12 378 = (f6 378) from (hGq11 378 (by decide) (by decide) (by decide) (by decide)), upa_at eA9, hz10]; exact NB_step hpi0 hp7 (by omega) (cl_31 hI) (by omega)) (by omega)
        · skip
          refine pe_iload_n (j := 2) (by decide +kernel) rfl ?_
          refine pe_iconstv (n := 2) (v := 2) (by decide +kernel) (by decide +kernel) ?_
          refine pz_icmp_eq (off := 5) (t := 72) (by decide +kernel) (by decide) rfl rfl kz_2 (fun h14 => ?_) (fun h14 => ?_)
          · skip
            refine pe_aload_n (j := 0) (by decide +kernel) rfl ?_
            refine pe_iload_n (j := 2) (by decide +kernel) rfl ?_
            refine pe_iload_n (j := 3) (by decide +kernel) rfl ?_
            refine pz_callV (j := 89) (mj := 47) (by decide +kernel) (cll_V (args := [.int x3, .int x2]) (n := 2) (by decide +kernel) rfl rfl cd_o23 (by decide +kernel) (Nat.le_of_ble_eq_true rfl) (Nat.le_of_ble_eq_true rfl)) (CM_47 hX hI (by omega) (by omega)) (fun q15a q15b q15c q15d hqq15 => ?_)
            obtain ⟨f16, eq15, hIq15, hGq15, kq15⟩ := hqq15
            cases eq15
            refine ⟨rfl, rfl, ?_⟩
            obtain ⟨hp17, kq15⟩ := kq15
            show pmE pg X pg_tyl pg_cl (d + 7) 29 78 [.ref 23, .int 1, .int x2, .int x3, .int x4] [] (cd f16 A R wr) _
            refine pe_iload_n (j := 3) (by decide +kernel) rfl ?_
            refine pe_bipushv (n := 8) (v := 8) (by decide +kernel) (by decide +kernel) ?_
            refine pz_icmp_ge (off := 13) (t := 94) (by decide +kernel) (by decide) rfl rfl kz_8 (fun h18 => ?_) (fun h18 => ?_)
            · skip
              refine pz_iinc (j := 3) (n := 1) (by decide +kernel) rfl rfl (by decide +kernel) (by omega) (by omega) (fun z19 hz19 => ?_)
              show pmE pg X pg_tyl pg_cl (d + 7) 29 97 [.ref 23, .int 1, .int x2, .int z19, .int x4] [] (cd f16 A R wr) _
              refine pe_aload_n (j := 0) (by decide +kernel) rfl ?_
              refine pz_callV (j := 59) (mj := 23) (by decide +kernel) (cll_V (args := []) (n := 0) (by decide +kernel) rfl rfl cd_o23 (by decide +kernel) (Nat.le_of_ble_eq_true rfl) (Nat.le_of_ble_eq_true rfl)) (CM_23 hX hIq15 (hR4)) (fun q20a q20b q20c q20d hqq20 => ?_)
              obtain ⟨f21, eq20, hIq20, hGq20, kq20⟩ := hqq20
              cases eq20
              refine ⟨rfl, rfl, ?_⟩
              show pmE pg X pg_tyl pg_cl (d + 7) 29 101 [.ref 23, .int 1, .int x2, .int z19, .int x4] [] (cd f21 A R wr) _
              refine pz_iinc (j := 4) (n := 1) (by decide +kernel) rfl rfl (by decide +kernel) (by omega) (by omega) (fun z22 hz22 => ?_)
              show pmE pg X pg_tyl pg_cl (d + 7) 29 104 [.ref 23, .int 1, .int x2, .int z19, .int z22] [] (cd f21 A R wr) _
              refine pe_goto (off := (-65)) (t := 39) (by decide +kernel) (by decide) rfl ?_
              exact ih f21 A z19 z22 hIq20 (fun k n373 n374 n375 n376 n378 n379 => ((hGq20 k n373 n374 n375 n376)).trans (((hGq15 k n378 n379)).trans ((hG k n373 n374 n375 n376 n378 n379)))) (fun k n31 => (hF k n31)) (by omega) (by omega) (by omega) (by rw [show f21 378 = (f16 378) from (hGq20 378 (by decide) (by decide) (by decide) (by decide)), hz19]; exact NB_keep hpi0 hp17 (by omega)) (by omega)
            · skip
              refine pe_aload_n (j := 0) (by decide +kernel) rfl ?_
              refine pe_get (j := 25) (ci := 4) (n := 2) (by decide +kernel) (by decide +kernel) cd_o23 rfl ?_
              refine pe_iload_n (j := 3) (by decide +kernel) rfl ?_
              refine pe_aload_n (j := 0) (by decide +kernel) rfl ?_
              refine pe_get (j := 92) (ci := 4) (n := 8) (by decide +kernel) (by decide +kernel) cd_o23 rfl ?_
              refine pe_top (v := (f 376)) ((hGq15 376 (by decide) (by decide))) ?_
              refine cz_st31 (by decide +kernel) hIq15 rfl (by omega) (by omega) (fun A23 eA23 hIA23 => ?_)
              refine pz_iinc (j := 3) (n := 1) (by decide +kernel) rfl rfl (by decide +kernel) (by omega) (by omega) (fun z24 hz24 => ?_)
              show pmE pg X pg_tyl pg_cl (d + 7) 29 97 [.ref 23, .int 1, .int x2, .int z24, .int x4] [] (cd f16 A23 R wr) _
              refine pe_aload_n (j := 0) (by decide +kernel) rfl ?_
              refine pz_callV (j := 59) (mj := 23) (by decide +kernel) (cll_V (args := []) (n := 0) (by decide +kernel) rfl rfl cd_o23 (by decide +kernel) (Nat.le_of_ble_eq_true rfl) (Nat.le_of_ble_eq_true rfl)) (CM_23 hX hIA23 (hR4)) (fun q25a q25b q25c q25d hqq25 => ?_)
              obtain ⟨f26, eq25, hIq25, hGq25, kq25⟩ := hqq25
              cases eq25
              refine ⟨rfl, rfl, ?_⟩
              show pmE pg X pg_tyl pg_cl (d + 7) 29 101 [.ref 23, .int 1, .int x2, .int z24, .int x4] [] (cd f26 A23 R wr) _
              refine pz_iinc (j := 4) (n := 1) (by decide +kernel) rfl rfl (by decide +kernel) (by omega) (by omega) (fun z27 hz27 => ?_)
              show pmE pg X pg_tyl pg_cl (d + 7) 29 104 [.ref 23, .int 1, .int x2, .int z24, .int z27] [] (cd f26 A23 R wr) _
              refine pe_goto (off := (-65)) (t := 39) (by decide +kernel) (by decide) rfl ?_
              exact ih f26 A23 z24 z27 hIq25 (fun k n373 n374 n375 n376 n378 n379 => ((hGq25 k n373 n374 n375 n376)).trans (((hGq15 k n378 n379)).trans ((hG k n373 n374 n375 n376 n378 n379)))) (fun k n31 => (upa_fr eA23 n31).trans ((hF k n31))) (by omega) (by omega) (by omega) (by rw [show f26 378 = (f16 378) from (hGq25 378 (by decide) (by decide) (by decide) (by decide)), upa_at eA23, hz24]; exact NB_step hpi0 hp17 (by omega) (cl_31 hI) (by omega)) (by omega)
          · skip
            refine pe_iconstv (n := 0) (v := 0) (by decide +kernel) (by decide +kernel) ?_
            exact pe_iret (by decide +kernel) rfl rfl (kr_0 f A hI (fun k n373 n374 n375 n376 n378 n379 => (hG k n373 n374 n375 n376 n378 n379)) (fun k n31 => (hF k n31)))
set_option maxRecDepth 100000 in
set_option maxHeartbeats 8000000 in
theorem CM_29_1 {X : pm_X} {d : Nat} {wr : pm_W} {f : Nat → Int32} {A : Nat → List Int32} {R : Nat → Value} (hX : XO X) (hI : CI f A R) (hR4 : R 4 = .ref 4) : pmE pg X pg_tyl pg_cl (d + 7) 29 0 (pm_ent (pm_max pg 29) [.ref 23, .int 1]) [] (cd f A R wr) (fun q => ∃ (f' : Nat → Int32) (A' : Nat → List Int32) (r : Int32), q = (some (.int r), cd f' A' R wr, 0, 0) ∧ CI f' A' R ∧ (∀ k : Nat, k ≠ 373 → k ≠ 374 → k ≠ 375 → k ≠ 376 → k ≠ 378 → k ≠ 379 → k ≠ 464 → f' k = f k) ∧ (∀ k : Nat, k ≠ 30 → k ≠ 31 → A' k = A k) ∧ ((r = 0 ∧ True) ∨ (r = 1 ∧ True))) := by
  show pmE pg X pg_tyl pg_cl (d + 7) 29 0 [.ref 23, .int 1, pm_dead, pm_dead, pm_dead] [] (cd f A R wr) _
  refine pe_aload_n (j := 0) (by decide +kernel) rfl ?_
  refine pe_iload_n (j := 1) (by decide +kernel) rfl ?_
  refine pz_callV (j := 79) (mj := 30) (by decide +kernel) (cll_V (args := [.int 1]) (n := 1) (by decide +kernel) rfl rfl cd_o23 (by decide +kernel) (Nat.le_of_ble_eq_true rfl) (Nat.le_of_ble_eq_true rfl)) (CM_30_1 hX hI (hR4)) (fun q1a q1b q1c q1d hqq1 => ?_)
  obtain ⟨rq1, eq1, kq1⟩ := hqq1
  cases eq1
  refine ⟨rfl, rfl, ?_⟩
  show pmE pg X pg_tyl pg_cl (d + 7) 29 5 [.ref 23, .int 1, pm_dead, pm_dead, pm_dead] [.int rq1] (cd f A R wr) _
  refine pe_istore_n (j := 2) (ls' := [.ref 23, .int 1, .int rq1, pm_dead, pm_dead]) (by decide +kernel) (Nat.le_of_ble_eq_true rfl) rfl ?_
  refine pe_iload_n (j := 2) (by decide +kernel) rfl ?_
  refine pe_iconstv (n := (-1)) (v := (-1)) (by decide +kernel) (by decide +kernel) ?_
  refine pz_icmp_ne (off := 5) (t := 13) (by decide +kernel) (by decide) rfl rfl kz_m1 (fun h2 => ?_) (fun h2 => ?_)
  · skip
    refine pe_aload_n (j := 0) (by decide +kernel) rfl ?_
    refine pe_iload_n (j := 2) (by decide +kernel) rfl ?_
    refine pi_V (j := 83) (mj := 44) (by decide +kernel) (cll_V (args := [.int rq1]) (n := 1) (by decide +kernel) rfl rfl cd_o23 (by decide +kernel) (Nat.le_of_ble_eq_true rfl) (Nat.le_of_ble_eq_true rfl)) ?_
    show pmE pg X pg_tyl pg_cl (d + 6) 44 0 [.ref 23, .int rq1] [] (cd f A R wr) _
    refine pe_iload_n (j := 1) (by decide +kernel) rfl ?_
    refine pe_bipushv (n := 12) (v := 12) (by decide +kernel) (by decide +kernel) ?_
    refine pz_icmp_ne (off := 21) (t := 24) (by decide +kernel) (by decide) rfl rfl kz_12 (fun h3 => ?_) (fun h3 => by omega)
    refine pe_iload_n (j := 1) (by decide +kernel) rfl ?_
    refine pi_S (j := 101) (mj := 45) (by decide +kernel) (by decide +kernel) rfl ?_
    show pmE pg X pg_tyl pg_cl (d + 5) 45 0 [.int rq1] [] (cd f A R wr) _
    refine pe_iload_n (j := 0) (by decide +kernel) rfl ?_
    refine pe_iconstv (n := 5) (v := 5) (by decide +kernel) (by decide +kernel) ?_
    refine pz_icmp_gt (off := 7) (t := 9) (by decide +kernel) (by decide) rfl rfl kz_5 (fun h4 => by omega) (fun h4 => ?_)
    refine pe_iconstv (n := 1) (v := 1) (by decide +kernel) (by decide +kernel) ?_
    refine pe_goto (off := 4) (t := 10) (by decide +kernel) (by decide) rfl ?_
    refine pe_iret (by decide +kernel) rfl rfl ⟨rfl, rfl, ?_⟩
    show pmE pg X pg_tyl pg_cl (d + 6) 44 28 [.ref 23, .int rq1] [.int 1] (cd f A R wr) _
    refine pz_if_eq (off := 19) (t := 47) (by decide +kernel) (by decide) rfl kz_1 (fun h5 => by omega) (fun h5 => ?_)
    refine pe_aload_n (j := 0) (by decide +kernel) rfl ?_
    refine pe_get (j := 21) (ci := 4) (n := 1) (by decide +kernel) (by decide +kernel) cd_o23 rfl ?_
    refine pe_get (j := 104) (ci := 5) (n := 0) (by decide +kernel) (by decide +kernel) cd_o29 rfl ?_
    have hr_f_464 := cf_464 hI
    refine pe_bipushv (n := 30) (v := 30) (by decide +kernel) (by decide +kernel) ?_
    refine pz_icmp_lt (off := 7) (t := 47) (by decide +kernel) (by decide) rfl rfl kz_30 (fun h6 => ?_) (fun h6 => ?_)
    · skip
      refine pe_iconstv (n := 0) (v := 0) (by decide +kernel) (by decide +kernel) ?_
      refine pe_iret (by decide +kernel) rfl rfl ⟨rfl, rfl, ?_⟩
      show pmE pg X pg_tyl pg_cl (d + 7) 29 18 [.ref 23, .int 1, .int rq1, pm_dead, pm_dead] [.int 0] (cd f A R wr) _
      refine pz_if_eq (off := 12) (t := 30) (by decide +kernel) (by decide) rfl kz_0 (fun h7 => ?_) (fun h7 => by omega)
      refine pe_aload_n (j := 0) (by decide +kernel) rfl ?_
      refine pz_callV (j := 59) (mj := 23) (by decide +kernel) (cll_V (args := []) (n := 0) (by decide +kernel) rfl rfl cd_o23 (by decide +kernel) (Nat.le_of_ble_eq_true rfl) (Nat.le_of_ble_eq_true rfl)) (CM_23 hX hI (hR4)) (fun q8a q8b q8c q8d hqq8 => ?_)
      obtain ⟨f9, eq8, hIq8, hGq8, kq8⟩ := hqq8
      cases eq8
      refine ⟨rfl, rfl, ?_⟩
      show pmE pg X pg_tyl pg_cl (d + 7) 29 34 [.ref 23, .int 1, .int rq1, pm_dead, pm_dead] [] (cd f9 A R wr) _
      refine pe_iconstv (n := 0) (v := 0) (by decide +kernel) (by decide +kernel) ?_
      refine pe_istore_n (j := 3) (ls' := [.ref 23, .int 1, .int rq1, .int 0, pm_dead]) (by decide +kernel) (Nat.le_of_ble_eq_true rfl) rfl ?_
      refine pe_iconstv (n := 0) (v := 0) (by decide +kernel) (by decide +kernel) ?_
      refine pe_istore (j := 4) (ls' := [.ref 23, .int 1, .int rq1, .int 0, .int 0]) (by decide +kernel) (Nat.le_of_ble_eq_true rfl) rfl ?_
      have hl20 := kz_0
      have hl21 := kz_0
      refine CL_29_1_39 hX (hR4) (by omega) (fun f10 A11 y12 y13 hIy14 hGf10 hFA11 gy12 gy13 hx15 hp16 => ?_) (fun f17 A18 hIy19 hGf17 hFA18 => ⟨f17, A18, 0, rfl, hIy19, (fun k n373 n374 n375 n376 n378 n379 n464 => ((hGf17 k n373 n374 n375 n376 n378 n379)).trans ((hGq8 k n373 n374 n375 n376))), (fun k n30 n31 => (hFA18 k n31)), Or.inl ⟨rfl, trivial⟩⟩) 601 f9 A 0 0 hIq8 (fun k _ _ _ _ _ _ => rfl) (fun k _ => rfl) (by decide +kernel) (by decide +kernel) (by omega) (fun _ i h1 h2 _ => absurd h2 (by rw [kz_0]; omega)) (by decide +kernel)
      refine pe_iload_n (j := 3) (by decide +kernel) rfl ?_
      refine pe_getstatic (j := 86) (v := .retAddr 1) (by decide +kernel) (by decide +kernel) ?_
      refine pe_iload_n (j := 2) (by decide +kernel) rfl ?_
      refine pz_ialdX (n := 13) (by decide +kernel) (hX 1 (by decide +kernel)) rfl rfl (by omega) (by omega) (fun v22 ev22 => ?_)
      have rv22 : 0 ≤ v22.toInt ∧ v22.toInt ≤ 4 := by rw [ev22]; exact lt_all (by decide +kernel) (by decide) _
      refine pz_icmp_lt (off := 11) (t := 124) (by decide +kernel) (by decide) rfl rfl rfl (fun h23 => ?_) (fun h23 => ?_)
      · skip
        refine pe_iconstv (n := 0) (v := 0) (by decide +kernel) (by decide +kernel) ?_
        exact pe_iret (by decide +kernel) rfl rfl ⟨f10, A11, 0, rfl, hIy14, (fun k n373 n374 n375 n376 n378 n379 n464 => ((hGf10 k n373 n374 n375 n376 n378 n379)).trans ((hGq8 k n373 n374 n375 n376))), (fun k n30 n31 => (hFA11 k n31)), Or.inl ⟨rfl, trivial⟩⟩
      · skip
        refine pe_aload_n (j := 0) (by decide +kernel) rfl ?_
        refine pe_get (j := 62) (ci := 4) (n := 6) (by decide +kernel) (by decide +kernel) cd_o23 rfl ?_
        have hr_f10_374 := cf_374 hIy14
        refine pe_iconstv (n := 3) (v := 3) (by decide +kernel) (by decide +kernel) ?_
        refine pz_icmp_eq (off := 5) (t := 126) (by decide +kernel) (by decide) rfl rfl kz_3 (fun h24 => ?_) (fun h24 => ?_)
        · skip
          refine pe_aload_n (j := 0) (by decide +kernel) rfl ?_
          refine pz_callV (j := 59) (mj := 23) (by decide +kernel) (cll_V (args := []) (n := 0) (by decide +kernel) rfl rfl cd_o23 (by decide +kernel) (Nat.le_of_ble_eq_true rfl) (Nat.le_of_ble_eq_true rfl)) (CM_23 hX hIy14 (hR4)) (fun q25a q25b q25c q25d hqq25 => ?_)
          obtain ⟨f26, eq25, hIq25, hGq25, kq25⟩ := hqq25
          cases eq25
          refine ⟨rfl, rfl, ?_⟩
          show pmE pg X pg_tyl pg_cl (d + 7) 29 130 [.ref 23, .int 1, .int rq1, .int y12, .int y13] [] (cd f26 A11 R wr) _
          refine pe_aload_n (j := 0) (by decide +kernel) rfl ?_
          refine pe_get (j := 53) (ci := 4) (n := 10) (by decide +kernel) (by decide +kernel) cd_o23 rfl ?_
          refine pe_top (v := (f10 378)) ((hGq25 378 (by decide) (by decide) (by decide) (by decide))) ?_
          have lw28 := zi_lo (f10 378)
          have uw28 := zi_hi (f10 378)
          refine pz_if_ne (off := 9) (t := 143) (by decide +kernel) (by decide) rfl rfl (fun h27 => ?_) (fun h27 => ?_)
          · skip
            refine pe_iconstv (n := 1) (v := 1) (by decide +kernel) (by decide +kernel) ?_
            exact pe_iret (by decide +kernel) rfl rfl ⟨f26, A11, 1, rfl, hIq25, (fun k n373 n374 n375 n376 n378 n379 n464 => ((hGq25 k n373 n374 n375 n376)).trans (((hGf10 k n373 n374 n375 n376 n378 n379)).trans ((hGq8 k n373 n374 n375 n376)))), (fun k n30 n31 => (hFA11 k n31)), Or.inr (⟨rfl, trivial⟩)⟩
          · skip
            by_cases h29 : rq1.toInt = 0
            · skip
              rw [show rq1 = 0 from ti_eq (h29.trans kz_0.symm)]
              have hlk30 := kz_0
              have hdue : v22.toInt = 3 := by rw [ev22, h29]; decide +kernel
              refine pe_aload_n (j := 0) (by decide +kernel) rfl ?_
              refine pe_iload_n (j := 2) (by decide +kernel) rfl ?_
              refine pe_iload_n (j := 3) (by decide +kernel) rfl ?_
              refine pz_callV (j := 95) (mj := 49) (by decide +kernel) (cll_V (args := [.int y12, .int 0]) (n := 2) (by decide +kernel) rfl rfl cd_o23 (by decide +kernel) (Nat.le_of_ble_eq_true rfl) (Nat.le_of_ble_eq_true rfl)) (CM_49 hX hIq25) (fun q31a q31b q31c q31d hqq31 => ?_)
              obtain ⟨f32, A33, eq31, hIq31, hGq31, hFq31, kq31⟩ := hqq31
              cases eq31
              refine ⟨rfl, rfl, ?_⟩
              show pmE pg X pg_tyl pg_cl (d + 7) 29 143 [.ref 23, .int 1, .int 0, .int y12, .int y13] [] (cd f32 A33 R wr) _
              refine pe_iconstv (n := 1) (v := 1) (by decide +kernel) (by decide +kernel) ?_
              exact pe_iret (by decide +kernel) rfl rfl ⟨f32, A33, 1, rfl, hIq31, (fun k n373 n374 n375 n376 n378 n379 n464 => ((hGq31 k n464)).trans (((hGq25 k n373 n374 n375 n376)).trans (((hGf10 k n373 n374 n375 n376 n378 n379)).trans ((hGq8 k n373 n374 n375 n376))))), (fun k n30 n31 => ((hFq31 k n30)).trans ((hFA11 k n31))), Or.inr (⟨rfl, trivial⟩)⟩
            · skip
              by_cases h34 : rq1.toInt = 1
              · skip
                rw [show rq1 = 1 from ti_eq (h34.trans kz_1.symm)]
                have hlk35 := kz_1
                have hdue : v22.toInt = 3 := by rw [ev22, h34]; decide +kernel
                refine pe_aload_n (j := 0) (by decide +kernel) rfl ?_
                refine pe_iload_n (j := 2) (by decide +kernel) rfl ?_
                refine pe_iload_n (j := 3) (by decide +kernel) rfl ?_
                refine pz_callV (j := 95) (mj := 49) (by decide +kernel) (cll_V (args := [.int y12, .int 1]) (n := 2) (by decide +kernel) rfl rfl cd_o23 (by decide +kernel) (Nat.le_of_ble_eq_true rfl) (Nat.le_of_ble_eq_true rfl)) (CM_49_1 hX hIq25) (fun q36a q36b q36c q36d hqq36 => ?_)
                obtain ⟨f37, A38, eq36, hIq36, hGq36, hFq36, kq36⟩ := hqq36
                cases eq36
                refine ⟨rfl, rfl, ?_⟩
                show pmE pg X pg_tyl pg_cl (d + 7) 29 143 [.ref 23, .int 1, .int 1, .int y12, .int y13] [] (cd f37 A38 R wr) _
                refine pe_iconstv (n := 1) (v := 1) (by decide +kernel) (by decide +kernel) ?_
                exact pe_iret (by decide +kernel) rfl rfl ⟨f37, A38, 1, rfl, hIq36, (fun k n373 n374 n375 n376 n378 n379 n464 => ((hGq36 k n464)).trans (((hGq25 k n373 n374 n375 n376)).trans (((hGf10 k n373 n374 n375 n376 n378 n379)).trans ((hGq8 k n373 n374 n375 n376))))), (fun k n30 n31 => ((hFq36 k n30)).trans ((hFA11 k n31))), Or.inr (⟨rfl, trivial⟩)⟩
              · skip
                by_cases h39 : rq1.toInt = 2
                · skip
                  rw [show rq1 = 2 from ti_eq (h39.trans kz_2.symm)]
                  have hlk40 := kz_2
                  have hdue : v22.toInt = 4 := by rw [ev22, h39]; decide +kernel
                  refine pe_aload_n (j := 0) (by decide +kernel) rfl ?_
                  refine pe_iload_n (j := 2) (by decide +kernel) rfl ?_
                  refine pe_iload_n (j := 3) (by decide +kernel) rfl ?_
                  refine pz_callV (j := 95) (mj := 49) (by decide +kernel) (cll_V (args := [.int y12, .int 2]) (n := 2) (by decide +kernel) rfl rfl cd_o23 (by decide +kernel) (Nat.le_of_ble_eq_true rfl) (Nat.le_of_ble_eq_true rfl)) (CM_49_2 hX hIq25) (fun q41a q41b q41c q41d hqq41 => ?_)
                  obtain ⟨f42, A43, eq41, hIq41, hGq41, hFq41, kq41⟩ := hqq41
                  cases eq41
                  refine ⟨rfl, rfl, ?_⟩
                  show pmE pg X pg_tyl pg_cl (d + 7) 29 143 [.ref 23, .int 1, .int 2, .int y12, .int y13] [] (cd f42 A43 R wr) _
                  refine pe_iconstv (n := 1) (v := 1) (by decide +kernel) (by decide +kernel) ?_
                  exact pe_iret (by decide +kernel) rfl rfl ⟨f42, A43, 1, rfl, hIq41, (fun k n373 n374 n375 n376 n378 n379 n464 => ((hGq41 k n464)).trans (((hGq25 k n373 n374 n375 n376)).trans (((hGf10 k n373 n374 n375 n376 n378 n379)).trans ((hGq8 k n373 n374 n375 n376))))), (fun k n30 n31 => ((hFq41 k n30)).trans ((hFA11 k n31))), Or.inr (⟨rfl, trivial⟩)⟩
                · skip
                  by_cases h44 : rq1.toInt = 3
                  · skip
                    rw [show rq1 = 3 from ti_eq (h44.trans kz_3.symm)]
                    have hlk45 := kz_3
                    have hdue : v22.toInt = 1 := by rw [ev22, h44]; decide +kernel
                    refine pe_aload_n (j := 0) (by decide +kernel) rfl ?_
                    refine pe_iload_n (j := 2) (by decide +kernel) rfl ?_
                    refine pe_iload_n (j := 3) (by decide +kernel) rfl ?_
                    refine pz_callV (j := 95) (mj := 49) (by decide +kernel) (cll_V (args := [.int y12, .int 3]) (n := 2) (by decide +kernel) rfl rfl cd_o23 (by decide +kernel) (Nat.le_of_ble_eq_true rfl) (Nat.le_of_ble_eq_true rfl)) (CM_49_3 hX hIq25) (fun q46a q46b q46c q46d hqq46 => ?_)
                    obtain ⟨f47, A48, eq46, hIq46, hGq46, hFq46, kq46⟩ := hqq46
                    cases eq46
                    refine ⟨rfl, rfl, ?_⟩
                    show pmE pg X pg_tyl pg_cl (d + 7) 29 143 [.ref 23, .int 1, .int 3, .int y12, .int y13] [] (cd f47 A48 R wr) _
                    refine pe_iconstv (n := 1) (v := 1) (by decide +kernel) (by decide +kernel) ?_
                    exact pe_iret (by decide +kernel) rfl rfl ⟨f47, A48, 1, rfl, hIq46, (fun k n373 n374 n375 n376 n378 n379 n464 => ((hGq46 k n464)).trans (((hGq25 k n373 n374 n375 n376)).trans (((hGf10 k n373 n374 n375 n376 n378 n379)).trans ((hGq8 k n373 n374 n375 n376))))), (fun k n30 n31 => ((hFq46 k n30)).trans ((hFA11 k n31))), Or.inr (⟨rfl, trivial⟩)⟩
                  · skip
                    by_cases h49 : rq1.toInt = 4
                    · skip
                      rw [show rq1 = 4 from ti_eq (h49.trans kz_4.symm)]
                      have hlk50 := kz_4
                      have hdue : v22.toInt = 1 := by rw [ev22, h49]; decide +kernel
                      refine pe_aload_n (j := 0) (by decide +kernel) rfl ?_
                      refine pe_iload_n (j := 2) (by decide +kernel) rfl ?_
                      refine pe_iload_n (j := 3) (by decide +kernel) rfl ?_
                      refine pz_callV (j := 95) (mj := 49) (by decide +kernel) (cll_V (args := [.int y12, .int 4]) (n := 2) (by decide +kernel) rfl rfl cd_o23 (by decide +kernel) (Nat.le_of_ble_eq_true rfl) (Nat.le_of_ble_eq_true rfl)) (CM_49_4 hX hIq25) (fun q51a q51b q51c q51d hqq51 => ?_)
                      obtain ⟨f52, A53, eq51, hIq51, hGq51, hFq51, kq51⟩ := hqq51
                      cases eq51
                      refine ⟨rfl, rfl, ?_⟩
                      show pmE pg X pg_tyl pg_cl (d + 7) 29 143 [.ref 23, .int 1, .int 4, .int y12, .int y13] [] (cd f52 A53 R wr) _
                      refine pe_iconstv (n := 1) (v := 1) (by decide +kernel) (by decide +kernel) ?_
                      exact pe_iret (by decide +kernel) rfl rfl ⟨f52, A53, 1, rfl, hIq51, (fun k n373 n374 n375 n376 n378 n379 n464 => ((hGq51 k n464)).trans (((hGq25 k n373 n374 n375 n376)).trans (((hGf10 k n373 n374 n375 n376 n378 n379)).trans ((hGq8 k n373 n374 n375 n376))))), (fun k n30 n31 => ((hFq51 k n30)).trans ((hFA11 k n31))), Or.inr (⟨rfl, trivial⟩)⟩
                    · skip
                      by_cases h54 : rq1.toInt = 5
                      · skip
                        rw [show rq1 = 5 from ti_eq (h54.trans kz_5.symm)]
                        have hlk55 := kz_5
                        have hdue : v22.toInt = 0 := by rw [ev22, h54]; decide +kernel
                        refine pe_aload_n (j := 0) (by decide +kernel) rfl ?_
                        refine pe_iload_n (j := 2) (by decide +kernel) rfl ?_
                        refine pe_iload_n (j := 3) (by decide +kernel) rfl ?_
                        refine pz_callV (j := 95) (mj := 49) (by decide +kernel) (cll_V (args := [.int y12, .int 5]) (n := 2) (by decide +kernel) rfl rfl cd_o23 (by decide +kernel) (Nat.le_of_ble_eq_true rfl) (Nat.le_of_ble_eq_true rfl)) (CM_49_5 hX hIq25) (fun q56a q56b q56c q56d hqq56 => ?_)
                        obtain ⟨f57, A58, eq56, hIq56, hGq56, hFq56, kq56⟩ := hqq56
                        cases eq56
                        refine ⟨rfl, rfl, ?_⟩
                        show pmE pg X pg_tyl pg_cl (d + 7) 29 143 [.ref 23, .int 1, .int 5, .int y12, .int y13] [] (cd f57 A58 R wr) _
                        refine pe_iconstv (n := 1) (v := 1) (by decide +kernel) (by decide +kernel) ?_
                        exact pe_iret (by decide +kernel) rfl rfl ⟨f57, A58, 1, rfl, hIq56, (fun k n373 n374 n375 n376 n378 n379 n464 => ((hGq56 k n464)).trans (((hGq25 k n373 n374 n375 n376)).trans (((hGf10 k n373 n374 n375 n376 n378 n379)).trans ((hGq8 k n373 n374 n375 n376))))), (fun k n30 n31 => ((hFq56 k n30)).trans ((hFA11 k n31))), Or.inr (⟨rfl, trivial⟩)⟩
                      · skip
                        exfalso; omega
        · skip
          refine pe_iconstv (n := 0) (v := 0) (by decide +kernel) (by decide +kernel) ?_
          exact pe_iret (by decide +kernel) rfl rfl ⟨f10, A11, 0, rfl, hIy14, (fun k n373 n374 n375 n376 n378 n379 n464 => ((hGf10 k n373 n374 n375 n376 n378 n379)).trans ((hGq8 k n373 n374 n375 n376))), (fun k n30 n31 => (hFA11 k n31)), Or.inl ⟨rfl, trivial⟩⟩
    · skip
      refine pe_iconstv (n := 1) (v := 1) (by decide +kernel) (by decide +kernel) ?_
      refine pe_goto (off := 4) (t := 48) (by decide +kernel) (by decide) rfl ?_
      refine pe_iret (by decide +kernel) rfl rfl ⟨rfl, rfl, ?_⟩
      show pmE pg X pg_tyl pg_cl (d + 7) 29 18 [.ref 23, .int 1, .int rq1, pm_dead, pm_dead] [.int 1] (cd f A R wr) _
      refine pz_if_eq (off := 12) (t := 30) (by decide +kernel) (by decide) rfl kz_1 (fun h59 => by omega) (fun h59 => ?_)
      refine pe_aload_n (j := 0) (by decide +kernel) rfl ?_
      refine pe_iconstv (n := 3) (v := 3) (by decide +kernel) (by decide +kernel) ?_
      refine pe_aload_n (j := 0) (by decide +kernel) rfl ?_
      refine pe_get (j := 69) (ci := 4) (n := 7) (by decide +kernel) (by decide +kernel) cd_o23 rfl ?_
      have hr_f_375 := cf_375 hI
      refine pi_V (j := 75) (mj := 46) (by decide +kernel) (cll_V (args := [.int (f 375), .int 3]) (n := 2) (by decide +kernel) rfl rfl cd_o23 (by decide +kernel) (Nat.le_of_ble_eq_true rfl) (Nat.le_of_ble_eq_true rfl)) ?_
      show pmE pg X pg_tyl pg_cl (d + 6) 46 0 [.ref 23, .int 3, .int (f 375)] [] (cd f A R wr) _
      refine pe_aload_n (j := 0) (by decide +kernel) rfl ?_
      refine pe_get (j := 53) (ci := 4) (n := 10) (by decide +kernel) (by decide +kernel) cd_o23 rfl ?_
      have lw61 := zi_lo (f 378)
      have uw61 := zi_hi (f 378)
      refine pz_if_ne (off := 13) (t := 17) (by decide +kernel) (by decide) rfl rfl (fun h60 => ?_) (fun h60 => ?_)
      · skip
        refine pe_vret (by decide +kernel) rfl ⟨rfl, rfl, ?_⟩
        show pmE pg X pg_tyl pg_cl (d + 7) 29 30 [.ref 23, .int 1, .int rq1, pm_dead, pm_dead] [] (cd f A R wr) _
        refine pe_aload_n (j := 0) (by decide +kernel) rfl ?_
        refine pz_callV (j := 59) (mj := 23) (by decide +kernel) (cll_V (args := []) (n := 0) (by decide +kernel) rfl rfl cd_o23 (by decide +kernel) (Nat.le_of_ble_eq_true rfl) (Nat.le_of_ble_eq_true rfl)) (CM_23 hX hI (hR4)) (fun q62a q62b q62c q62d hqq62 => ?_)
        obtain ⟨f63, eq62, hIq62, hGq62, kq62⟩ := hqq62
        cases eq62
        refine ⟨rfl, rfl, ?_⟩
        show pmE pg X pg_tyl pg_cl (d + 7) 29 34 [.ref 23, .int 1, .int rq1, pm_dead, pm_dead] [] (cd f63 A R wr) _
        refine pe_iconstv (n := 0) (v := 0) (by decide +kernel) (by decide +kernel) ?_
        refine pe_istore_n (j := 3) (ls' := [.ref 23, .int 1, .int rq1, .int 0, pm_dead]) (by decide +kernel) (Nat.le_of_ble_eq_true rfl) rfl ?_
        refine pe_iconstv (n := 0) (v := 0) (by decide +kernel) (by decide +kernel) ?_
        refine pe_istore (j := 4) (ls' := [.ref 23, .int 1, .int rq1, .int 0, .int 0]) (by decide +kernel) (Nat.le_of_ble_eq_true rfl) rfl ?_
        have hl74 := kz_0
        have hl75 := kz_0
        refine CL_29_1_39 hX (hR4) (by omega) (fun f64 A65 y66 y67 hIy68 hGf64 hFA65 gy66 gy67 hx69 hp70 => ?_) (fun f71 A72 hIy73 hGf71 hFA72 => ⟨f71, A72, 0, rfl, hIy73, (fun k n373 n374 n375 n376 n378 n379 n464 => ((hGf71 k n373 n374 n375 n376 n378 n379)).trans ((hGq62 k n373 n374 n375 n376))), (fun k n30 n31 => (hFA72 k n31)), Or.inl ⟨rfl, trivial⟩⟩) 601 f63 A 0 0 hIq62 (fun k _ _ _ _ _ _ => rfl) (fun k _ => rfl) (by decide +kernel) (by decide +kernel) (by omega) (fun _ i h1 h2 _ => absurd h2 (by rw [kz_0]; omega)) (by decide +kernel)
        refine pe_iload_n (j := 3) (by decide +kernel) rfl ?_
        refine pe_getstatic (j := 86) (v := .retAddr 1) (by decide +kernel) (by decide +kernel) ?_
        refine pe_iload_n (j := 2) (by decide +kernel) rfl ?_
        refine pz_ialdX (n := 13) (by decide +kernel) (hX 1 (by decide +kernel)) rfl rfl (by omega) (by omega) (fun v76 ev76 => ?_)
        have rv76 : 0 ≤ v76.toInt ∧ v76.toInt ≤ 4 := by rw [ev76]; exact lt_all (by decide +kernel) (by decide) _
        refine pz_icmp_lt (off := 11) (t := 124) (by decide +kernel) (by decide) rfl rfl rfl (fun h77 => ?_) (fun h77 => ?_)
        · skip
          refine pe_iconstv (n := 0) (v := 0) (by decide +kernel) (by decide +kernel) ?_
          exact pe_iret (by decide +kernel) rfl rfl ⟨f64, A65, 0, rfl, hIy68, (fun k n373 n374 n375 n376 n378 n379 n464 => ((hGf64 k n373 n374 n375 n376 n378 n379)).trans ((hGq62 k n373 n374 n375 n376))), (fun k n30 n31 => (hFA65 k n31)), Or.inl ⟨rfl, trivial⟩⟩
        · skip
          refine pe_aload_n (j := 0) (by decide +kernel) rfl ?_
          refine pe_get (j := 62) (ci := 4) (n := 6) (by decide +kernel) (by decide +kernel) cd_o23 rfl ?_
          have hr_f64_374 := cf_374 hIy68
          refine pe_iconstv (n := 3) (v := 3) (by decide +kernel) (by decide +kernel) ?_
          refine pz_icmp_eq (off := 5) (t := 126) (by decide +kernel) (by decide) rfl rfl kz_3 (fun h78 => ?_) (fun h78 => ?_)
          · skip
            refine pe_aload_n (j := 0) (by decide +kernel) rfl ?_
            refine pz_callV (j := 59) (mj := 23) (by decide +kernel) (cll_V (args := []) (n := 0) (by decide +kernel) rfl rfl cd_o23 (by decide +kernel) (Nat.le_of_ble_eq_true rfl) (Nat.le_of_ble_eq_true rfl)) (CM_23 hX hIy68 (hR4)) (fun q79a q79b q79c q79d hqq79 => ?_)
            obtain ⟨f80, eq79, hIq79, hGq79, kq79⟩ := hqq79
            cases eq79
            refine ⟨rfl, rfl, ?_⟩
            show pmE pg X pg_tyl pg_cl (d + 7) 29 130 [.ref 23, .int 1, .int rq1, .int y66, .int y67] [] (cd f80 A65 R wr) _
            refine pe_aload_n (j := 0) (by decide +kernel) rfl ?_
            refine pe_get (j := 53) (ci := 4) (n := 10) (by decide +kernel) (by decide +kernel) cd_o23 rfl ?_
            refine pe_top (v := (f64 378)) ((hGq79 378 (by decide) (by decide) (by decide) (by decide))) ?_
            have lw82 := zi_lo (f64 378)
            have uw82 := zi_hi (f64 378)
            refine pz_if_ne (off := 9) (t := 143) (by decide +kernel) (by decide) rfl rfl (fun h81 => ?_) (fun h81 => ?_)
            · skip
              refine pe_iconstv (n := 1) (v := 1) (by decide +kernel) (by decide +kernel) ?_
              exact pe_iret (by decide +kernel) rfl rfl ⟨f80, A65, 1, rfl, hIq79, (fun k n373 n374 n375 n376 n378 n379 n464 => ((hGq79 k n373 n374 n375 n376)).trans (((hGf64 k n373 n374 n375 n376 n378 n379)).trans ((hGq62 k n373 n374 n375 n376)))), (fun k n30 n31 => (hFA65 k n31)), Or.inr (⟨rfl, trivial⟩)⟩
            · skip
              by_cases h83 : rq1.toInt = 0
              · skip
                rw [show rq1 = 0 from ti_eq (h83.trans kz_0.symm)]
                have hlk84 := kz_0
                have hdue : v76.toInt = 3 := by rw [ev76, h83]; decide +kernel
                refine pe_aload_n (j := 0) (by decide +kernel) rfl ?_
                refine pe_iload_n (j := 2) (by decide +kernel) rfl ?_
                refine pe_iload_n (j := 3) (by decide +kernel) rfl ?_
                refine pz_callV (j := 95) (mj := 49) (by decide +kernel) (cll_V (args := [.int y66, .int 0]) (n := 2) (by decide +kernel) rfl rfl cd_o23 (by decide +kernel) (Nat.le_of_ble_eq_true rfl) (Nat.le_of_ble_eq_true rfl)) (CM_49 hX hIq79) (fun q85a q85b q85c q85d hqq85 => ?_)
                obtain ⟨f86, A87, eq85, hIq85, hGq85, hFq85, kq85⟩ := hqq85
                cases eq85
                refine ⟨rfl, rfl, ?_⟩
                show pmE pg X pg_tyl pg_cl (d + 7) 29 143 [.ref 23, .int 1, .int 0, .int y66, .int y67] [] (cd f86 A87 R wr) _
                refine pe_iconstv (n := 1) (v := 1) (by decide +kernel) (by decide +kernel) ?_
                exact pe_iret (by decide +kernel) rfl rfl ⟨f86, A87, 1, rfl, hIq85, (fun k n373 n374 n375 n376 n378 n379 n464 => ((hGq85 k n464)).trans (((hGq79 k n373 n374 n375 n376)).trans (((hGf64 k n373 n374 n375 n376 n378 n379)).trans ((hGq62 k n373 n374 n375 n376))))), (fun k n30 n31 => ((hFq85 k n30)).trans ((hFA65 k n31))), Or.inr (⟨rfl, trivial⟩)⟩
              · skip
                by_cases h88 : rq1.toInt = 1
                · skip
                  rw [show rq1 = 1 from ti_eq (h88.trans kz_1.symm)]
                  have hlk89 := kz_1
                  have hdue : v76.toInt = 3 := by rw [ev76, h88]; decide +kernel
                  refine pe_aload_n (j := 0) (by decide +kernel) rfl ?_
                  refine pe_iload_n (j := 2) (by decide +kernel) rfl ?_
                  refine pe_iload_n (j := 3) (by decide +kernel) rfl ?_
                  refine pz_callV (j := 95) (mj := 49) (by decide +kernel) (cll_V (args := [.int y66, .int 1]) (n := 2) (by decide +kernel) rfl rfl cd_o23 (by decide +kernel) (Nat.le_of_ble_eq_true rfl) (Nat.le_of_ble_eq_true rfl)) (CM_49_1 hX hIq79) (fun q90a q90b q90c q90d hqq90 => ?_)
                  obtain ⟨f91, A92, eq90, hIq90, hGq90, hFq90, kq90⟩ := hqq90
                  cases eq90
                  refine ⟨rfl, rfl, ?_⟩
                  show pmE pg X pg_tyl pg_cl (d + 7) 29 143 [.ref 23, .int 1, .int 1, .int y66, .int y67] [] (cd f91 A92 R wr) _
                  refine pe_iconstv (n := 1) (v := 1) (by decide +kernel) (by decide +kernel) ?_
                  exact pe_iret (by decide +kernel) rfl rfl ⟨f91, A92, 1, rfl, hIq90, (fun k n373 n374 n375 n376 n378 n379 n464 => ((hGq90 k n464)).trans (((hGq79 k n373 n374 n375 n376)).trans (((hGf64 k n373 n374 n375 n376 n378 n379)).trans ((hGq62 k n373 n374 n375 n376))))), (fun k n30 n31 => ((hFq90 k n30)).trans ((hFA65 k n31))), Or.inr (⟨rfl, trivial⟩)⟩
                · skip
                  by_cases h93 : rq1.toInt = 2
                  · skip
                    rw [show rq1 = 2 from ti_eq (h93.trans kz_2.symm)]
                    have hlk94 := kz_2
                    have hdue : v76.toInt = 4 := by rw [ev76, h93]; decide +kernel
                    refine pe_aload_n (j := 0) (by decide +kernel) rfl ?_
                    refine pe_iload_n (j := 2) (by decide +kernel) rfl ?_
                    refine pe_iload_n (j := 3) (by decide +kernel) rfl ?_
                    refine pz_callV (j := 95) (mj := 49) (by decide +kernel) (cll_V (args := [.int y66, .int 2]) (n := 2) (by decide +kernel) rfl rfl cd_o23 (by decide +kernel) (Nat.le_of_ble_eq_true rfl) (Nat.le_of_ble_eq_true rfl)) (CM_49_2 hX hIq79) (fun q95a q95b q95c q95d hqq95 => ?_)
                    obtain ⟨f96, A97, eq95, hIq95, hGq95, hFq95, kq95⟩ := hqq95
                    cases eq95
                    refine ⟨rfl, rfl, ?_⟩
                    show pmE pg X pg_tyl pg_cl (d + 7) 29 143 [.ref 23, .int 1, .int 2, .int y66, .int y67] [] (cd f96 A97 R wr) _
                    refine pe_iconstv (n := 1) (v := 1) (by decide +kernel) (by decide +kernel) ?_
                    exact pe_iret (by decide +kernel) rfl rfl ⟨f96, A97, 1, rfl, hIq95, (fun k n373 n374 n375 n376 n378 n379 n464 => ((hGq95 k n464)).trans (((hGq79 k n373 n374 n375 n376)).trans (((hGf64 k n373 n374 n375 n376 n378 n379)).trans ((hGq62 k n373 n374 n375 n376))))), (fun k n30 n31 => ((hFq95 k n30)).trans ((hFA65 k n31))), Or.inr (⟨rfl, trivial⟩)⟩
                  · skip
                    by_cases h98 : rq1.toInt = 3
                    · skip
                      rw [show rq1 = 3 from ti_eq (h98.trans kz_3.symm)]
                      have hlk99 := kz_3
                      have hdue : v76.toInt = 1 := by rw [ev76, h98]; decide +kernel
                      refine pe_aload_n (j := 0) (by decide +kernel) rfl ?_
                      refine pe_iload_n (j := 2) (by decide +kernel) rfl ?_
                      refine pe_iload_n (j := 3) (by decide +kernel) rfl ?_
                      refine pz_callV (j := 95) (mj := 49) (by decide +kernel) (cll_V (args := [.int y66, .int 3]) (n := 2) (by decide +kernel) rfl rfl cd_o23 (by decide +kernel) (Nat.le_of_ble_eq_true rfl) (Nat.le_of_ble_eq_true rfl)) (CM_49_3 hX hIq79) (fun q100a q100b q100c q100d hqq100 => ?_)
                      obtain ⟨f101, A102, eq100, hIq100, hGq100, hFq100, kq100⟩ := hqq100
                      cases eq100
                      refine ⟨rfl, rfl, ?_⟩
                      show pmE pg X pg_tyl pg_cl (d + 7) 29 143 [.ref 23, .int 1, .int 3, .int y66, .int y67] [] (cd f101 A102 R wr) _
                      refine pe_iconstv (n := 1) (v := 1) (by decide +kernel) (by decide +kernel) ?_
                      exact pe_iret (by decide +kernel) rfl rfl ⟨f101, A102, 1, rfl, hIq100, (fun k n373 n374 n375 n376 n378 n379 n464 => ((hGq100 k n464)).trans (((hGq79 k n373 n374 n375 n376)).trans (((hGf64 k n373 n374 n375 n376 n378 n379)).trans ((hGq62 k n373 n374 n375 n376))))), (fun k n30 n31 => ((hFq100 k n30)).trans ((hFA65 k n31))), Or.inr (⟨rfl, trivial⟩)⟩
                    · skip
                      by_cases h103 : rq1.toInt = 4
                      · skip
                        rw [show rq1 = 4 from ti_eq (h103.trans kz_4.symm)]
                        have hlk104 := kz_4
                        have hdue : v76.toInt = 1 := by rw [ev76, h103]; decide +kernel
                        refine pe_aload_n (j := 0) (by decide +kernel) rfl ?_
                        refine pe_iload_n (j := 2) (by decide +kernel) rfl ?_
                        refine pe_iload_n (j := 3) (by decide +kernel) rfl ?_
                        refine pz_callV (j := 95) (mj := 49) (by decide +kernel) (cll_V (args := [.int y66, .int 4]) (n := 2) (by decide +kernel) rfl rfl cd_o23 (by decide +kernel) (Nat.le_of_ble_eq_true rfl) (Nat.le_of_ble_eq_true rfl)) (CM_49_4 hX hIq79) (fun q105a q105b q105c q105d hqq105 => ?_)
                        obtain ⟨f106, A107, eq105, hIq105, hGq105, hFq105, kq105⟩ := hqq105
                        cases eq105
                        refine ⟨rfl, rfl, ?_⟩
                        show pmE pg X pg_tyl pg_cl (d + 7) 29 143 [.ref 23, .int 1, .int 4, .int y66, .int y67] [] (cd f106 A107 R wr) _
                        refine pe_iconstv (n := 1) (v := 1) (by decide +kernel) (by decide +kernel) ?_
                        exact pe_iret (by decide +kernel) rfl rfl ⟨f106, A107, 1, rfl, hIq105, (fun k n373 n374 n375 n376 n378 n379 n464 => ((hGq105 k n464)).trans (((hGq79 k n373 n374 n375 n376)).trans (((hGf64 k n373 n374 n375 n376 n378 n379)).trans ((hGq62 k n373 n374 n375 n376))))), (fun k n30 n31 => ((hFq105 k n30)).trans ((hFA65 k n31))), Or.inr (⟨rfl, trivial⟩)⟩
                      · skip
                        by_cases h108 : rq1.toInt = 5
                        · skip
                          rw [show rq1 = 5 from ti_eq (h108.trans kz_5.symm)]
                          have hlk109 := kz_5
                          have hdue : v76.toInt = 0 := by rw [ev76, h108]; decide +kernel
                          refine pe_aload_n (j := 0) (by decide +kernel) rfl ?_
                          refine pe_iload_n (j := 2) (by decide +kernel) rfl ?_
                          refine pe_iload_n (j := 3) (by decide +kernel) rfl ?_
                          refine pz_callV (j := 95) (mj := 49) (by decide +kernel) (cll_V (args := [.int y66, .int 5]) (n := 2) (by decide +kernel) rfl rfl cd_o23 (by decide +kernel) (Nat.le_of_ble_eq_true rfl) (Nat.le_of_ble_eq_true rfl)) (CM_49_5 hX hIq79) (fun q110a q110b q110c q110d hqq110 => ?_)
                          obtain ⟨f111, A112, eq110, hIq110, hGq110, hFq110, kq110⟩ := hqq110
                          cases eq110
                          refine ⟨rfl, rfl, ?_⟩
                          show pmE pg X pg_tyl pg_cl (d + 7) 29 143 [.ref 23, .int 1, .int 5, .int y66, .int y67] [] (cd f111 A112 R wr) _
                          refine pe_iconstv (n := 1) (v := 1) (by decide +kernel) (by decide +kernel) ?_
                          exact pe_iret (by decide +kernel) rfl rfl ⟨f111, A112, 1, rfl, hIq110, (fun k n373 n374 n375 n376 n378 n379 n464 => ((hGq110 k n464)).trans (((hGq79 k n373 n374 n375 n376)).trans (((hGf64 k n373 n374 n375 n376 n378 n379)).trans ((hGq62 k n373 n374 n375 n376))))), (fun k n30 n31 => ((hFq110 k n30)).trans ((hFA65 k n31))), Or.inr (⟨rfl, trivial⟩)⟩
                        · skip
                          exfalso; omega
          · skip
            refine pe_iconstv (n := 0) (v := 0) (by decide +kernel) (by decide +kernel) ?_
            exact pe_iret (by decide +kernel) rfl rfl ⟨f64, A65, 0, rfl, hIy68, (fun k n373 n374 n375 n376 n378 n379 n464 => ((hGf64 k n373 n374 n375 n376 n378 n379)).trans ((hGq62 k n373 n374 n375 n376))), (fun k n30 n31 => (hFA65 k n31)), Or.inl ⟨rfl, trivial⟩⟩
      · skip
        refine pe_aload_n (j := 0) (by decide +kernel) rfl ?_
        refine pe_iload_n (j := 1) (by decide +kernel) rfl ?_
        refine cz_put378 (jj := 53) (by decide +kernel) (by decide +kernel) hI (fun f113 ef113 hIf113 => ?_)
        refine pe_aload_n (j := 0) (by decide +kernel) rfl ?_
        refine pe_iload_n (j := 2) (by decide +kernel) rfl ?_
        refine cz_put379 (jj := 56) (by decide +kernel) (by decide +kernel) hIf113 (fun f114 ef114 hIf114 => ?_)
        refine pe_vret (by decide +kernel) rfl ⟨rfl, rfl, ?_⟩
        show pmE pg X pg_tyl pg_cl (d + 7) 29 30 [.ref 23, .int 1, .int rq1, pm_dead, pm_dead] [] (cd f114 A R wr) _
        refine pe_aload_n (j := 0) (by decide +kernel) rfl ?_
        refine pz_callV (j := 59) (mj := 23) (by decide +kernel) (cll_V (args := []) (n := 0) (by decide +kernel) rfl rfl cd_o23 (by decide +kernel) (Nat.le_of_ble_eq_true rfl) (Nat.le_of_ble_eq_true rfl)) (CM_23 hX hIf114 (hR4)) (fun q115a q115b q115c q115d hqq115 => ?_)
        obtain ⟨f116, eq115, hIq115, hGq115, kq115⟩ := hqq115
        cases eq115
        refine ⟨rfl, rfl, ?_⟩
        show pmE pg X pg_tyl pg_cl (d + 7) 29 34 [.ref 23, .int 1, .int rq1, pm_dead, pm_dead] [] (cd f116 A R wr) _
        refine pe_iconstv (n := 0) (v := 0) (by decide +kernel) (by decide +kernel) ?_
        refine pe_istore_n (j := 3) (ls' := [.ref 23, .int 1, .int rq1, .int 0, pm_dead]) (by decide +kernel) (Nat.le_of_ble_eq_true rfl) rfl ?_
        refine pe_iconstv (n := 0) (v := 0) (by decide +kernel) (by decide +kernel) ?_
        refine pe_istore (j := 4) (ls' := [.ref 23, .int 1, .int rq1, .int 0, .int 0]) (by decide +kernel) (Nat.le_of_ble_eq_true rfl) rfl ?_
        have hl127 := kz_0
        have hl128 := kz_0
        refine CL_29_1_39 hX (hR4) (by omega) (fun f117 A118 y119 y120 hIy121 hGf117 hFA118 gy119 gy120 hx122 hp123 => ?_) (fun f124 A125 hIy126 hGf124 hFA125 => ⟨f124, A125, 0, rfl, hIy126, (fun k n373 n374 n375 n376 n378 n379 n464 => ((hGf124 k n373 n374 n375 n376 n378 n379)).trans (((hGq115 k n373 n374 n375 n376)).trans ((upf_fr ef114 n379).trans (upf_fr ef113 n378)))), (fun k n30 n31 => (hFA125 k n31)), Or.inl ⟨rfl, trivial⟩⟩) 601 f116 A 0 0 hIq115 (fun k _ _ _ _ _ _ => rfl) (fun k _ => rfl) (by decide +kernel) (by decide +kernel) (by omega) (fun _ i h1 h2 _ => absurd h2 (by rw [kz_0]; omega)) (by decide +kernel)
        refine pe_iload_n (j := 3) (by decide +kernel) rfl ?_
        refine pe_getstatic (j := 86) (v := .retAddr 1) (by decide +kernel) (by decide +kernel) ?_
        refine pe_iload_n (j := 2) (by decide +kernel) rfl ?_
        refine pz_ialdX (n := 13) (by decide +kernel) (hX 1 (by decide +kernel)) rfl rfl (by omega) (by omega) (fun v129 ev129 => ?_)
        have rv129 : 0 ≤ v129.toInt ∧ v129.toInt ≤ 4 := by rw [ev129]; exact lt_all (by decide +kernel) (by decide) _
        refine pz_icmp_lt (off := 11) (t := 124) (by decide +kernel) (by decide) rfl rfl rfl (fun h130 => ?_) (fun h130 => ?_)
        · skip
          refine pe_iconstv (n := 0) (v := 0) (by decide +kernel) (by decide +kernel) ?_
          exact pe_iret (by decide +kernel) rfl rfl ⟨f117, A118, 0, rfl, hIy121, (fun k n373 n374 n375 n376 n378 n379 n464 => ((hGf117 k n373 n374 n375 n376 n378 n379)).trans (((hGq115 k n373 n374 n375 n376)).trans ((upf_fr ef114 n379).trans (upf_fr ef113 n378)))), (fun k n30 n31 => (hFA118 k n31)), Or.inl ⟨rfl, trivial⟩⟩
        · skip
          refine pe_aload_n (j := 0) (by decide +kernel) rfl ?_
          refine pe_get (j := 62) (ci := 4) (n := 6) (by decide +kernel) (by decide +kernel) cd_o23 rfl ?_
          have hr_f117_374 := cf_374 hIy121
          refine pe_iconstv (n := 3) (v := 3) (by decide +kernel) (by decide +kernel) ?_
          refine pz_icmp_eq (off := 5) (t := 126) (by decide +kernel) (by decide) rfl rfl kz_3 (fun h131 => ?_) (fun h131 => ?_)
          · skip
            refine pe_aload_n (j := 0) (by decide +kernel) rfl ?_
            refine pz_callV (j := 59) (mj := 23) (by decide +kernel) (cll_V (args := []) (n := 0) (by decide +kernel) rfl rfl cd_o23 (by decide +kernel) (Nat.le_of_ble_eq_true rfl) (Nat.le_of_ble_eq_true rfl)) (CM_23 hX hIy121 (hR4)) (fun q132a q132b q132c q132d hqq132 => ?_)
            obtain ⟨f133, eq132, hIq132, hGq132, kq132⟩ := hqq132
            cases eq132
            refine ⟨rfl, rfl, ?_⟩
            show pmE pg X pg_tyl pg_cl (d + 7) 29 130 [.ref 23, .int 1, .int rq1, .int y119, .int y120] [] (cd f133 A118 R wr) _
            refine pe_aload_n (j := 0) (by decide +kernel) rfl ?_
            refine pe_get (j := 53) (ci := 4) (n := 10) (by decide +kernel) (by decide +kernel) cd_o23 rfl ?_
            refine pe_top (v := (f117 378)) ((hGq132 378 (by decide) (by decide) (by decide) (by decide))) ?_
            have lw135 := zi_lo (f117 378)
            have uw135 := zi_hi (f117 378)
            refine pz_if_ne (off := 9) (t := 143) (by decide +kernel) (by decide) rfl rfl (fun h134 => ?_) (fun h134 => ?_)
            · skip
              refine pe_iconstv (n := 1) (v := 1) (by decide +kernel) (by decide +kernel) ?_
              exact pe_iret (by decide +kernel) rfl rfl ⟨f133, A118, 1, rfl, hIq132, (fun k n373 n374 n375 n376 n378 n379 n464 => ((hGq132 k n373 n374 n375 n376)).trans (((hGf117 k n373 n374 n375 n376 n378 n379)).trans (((hGq115 k n373 n374 n375 n376)).trans ((upf_fr ef114 n379).trans (upf_fr ef113 n378))))), (fun k n30 n31 => (hFA118 k n31)), Or.inr (⟨rfl, trivial⟩)⟩
            · skip
              by_cases h136 : rq1.toInt = 0
              · skip
                rw [show rq1 = 0 from ti_eq (h136.trans kz_0.symm)]
                have hlk137 := kz_0
                have hdue : v129.toInt = 3 := by rw [ev129, h136]; decide +kernel
                refine pe_aload_n (j := 0) (by decide +kernel) rfl ?_
                refine pe_iload_n (j := 2) (by decide +kernel) rfl ?_
                refine pe_iload_n (j := 3) (by decide +kernel) rfl ?_
                refine pz_callV (j := 95) (mj := 49) (by decide +kernel) (cll_V (args := [.int y119, .int 0]) (n := 2) (by decide +kernel) rfl rfl cd_o23 (by decide +kernel) (Nat.le_of_ble_eq_true rfl) (Nat.le_of_ble_eq_true rfl)) (CM_49 hX hIq132) (fun q138a q138b q138c q138d hqq138 => ?_)
                obtain ⟨f139, A140, eq138, hIq138, hGq138, hFq138, kq138⟩ := hqq138
                cases eq138
                refine ⟨rfl, rfl, ?_⟩
                show pmE pg X pg_tyl pg_cl (d + 7) 29 143 [.ref 23, .int 1, .int 0, .int y119, .int y120] [] (cd f139 A140 R wr) _
                refine pe_iconstv (n := 1) (v := 1) (by decide +kernel) (by decide +kernel) ?_
                exact pe_iret (by decide +kernel) rfl rfl ⟨f139, A140, 1, rfl, hIq138, (fun k n373 n374 n375 n376 n378 n379 n464 => ((hGq138 k n464)).trans (((hGq132 k n373 n374 n375 n376)).trans (((hGf117 k n373 n374 n375 n376 n378 n379)).trans (((hGq115 k n373 n374 n375 n376)).trans ((upf_fr ef114 n379).trans (upf_fr ef113 n378)))))), (fun k n30 n31 => ((hFq138 k n30)).trans ((hFA118 k n31))), Or.inr (⟨rfl, trivial⟩)⟩
              · skip
                by_cases h141 : rq1.toInt = 1
                · skip
                  rw [show rq1 = 1 from ti_eq (h141.trans kz_1.symm)]
                  have hlk142 := kz_1
                  have hdue : v129.toInt = 3 := by rw [ev129, h141]; decide +kernel
                  refine pe_aload_n (j := 0) (by decide +kernel) rfl ?_
                  refine pe_iload_n (j := 2) (by decide +kernel) rfl ?_
                  refine pe_iload_n (j := 3) (by decide +kernel) rfl ?_
                  refine pz_callV (j := 95) (mj := 49) (by decide +kernel) (cll_V (args := [.int y119, .int 1]) (n := 2) (by decide +kernel) rfl rfl cd_o23 (by decide +kernel) (Nat.le_of_ble_eq_true rfl) (Nat.le_of_ble_eq_true rfl)) (CM_49_1 hX hIq132) (fun q143a q143b q143c q143d hqq143 => ?_)
                  obtain ⟨f144, A145, eq143, hIq143, hGq143, hFq143, kq143⟩ := hqq143
                  cases eq143
                  refine ⟨rfl, rfl, ?_⟩
                  show pmE pg X pg_tyl pg_cl (d + 7) 29 143 [.ref 23, .int 1, .int 1, .int y119, .int y120] [] (cd f144 A145 R wr) _
                  refine pe_iconstv (n := 1) (v := 1) (by decide +kernel) (by decide +kernel) ?_
                  exact pe_iret (by decide +kernel) rfl rfl ⟨f144, A145, 1, rfl, hIq143, (fun k n373 n374 n375 n376 n378 n379 n464 => ((hGq143 k n464)).trans (((hGq132 k n373 n374 n375 n376)).trans (((hGf117 k n373 n374 n375 n376 n378 n379)).trans (((hGq115 k n373 n374 n375 n376)).trans ((upf_fr ef114 n379).trans (upf_fr ef113 n378)))))), (fun k n30 n31 => ((hFq143 k n30)).trans ((hFA118 k n31))), Or.inr (⟨rfl, trivial⟩)⟩
                · skip
                  by_cases h146 : rq1.toInt = 2
                  · skip
                    rw [show rq1 = 2 from ti_eq (h146.trans kz_2.symm)]
                    have hlk147 := kz_2
                    have hdue : v129.toInt = 4 := by rw [ev129, h146]; decide +kernel
                    refine pe_aload_n (j := 0) (by decide +kernel) rfl ?_
                    refine pe_iload_n (j := 2) (by decide +kernel) rfl ?_
                    refine pe_iload_n (j := 3) (by decide +kernel) rfl ?_
                    refine pz_callV (j := 95) (mj := 49) (by decide +kernel) (cll_V (args := [.int y119, .int 2]) (n := 2) (by decide +kernel) rfl rfl cd_o23 (by decide +kernel) (Nat.le_of_ble_eq_true rfl) (Nat.le_of_ble_eq_true rfl)) (CM_49_2 hX hIq132) (fun q148a q148b q148c q148d hqq148 => ?_)
                    obtain ⟨f149, A150, eq148, hIq148, hGq148, hFq148, kq148⟩ := hqq148
                    cases eq148
                    refine ⟨rfl, rfl, ?_⟩
                    show pmE pg X pg_tyl pg_cl (d + 7) 29 143 [.ref 23, .int 1, .int 2, .int y119, .int y120] [] (cd f149 A150 R wr) _
                    refine pe_iconstv (n := 1) (v := 1) (by decide +kernel) (by decide +kernel) ?_
                    exact pe_iret (by decide +kernel) rfl rfl ⟨f149, A150, 1, rfl, hIq148, (fun k n373 n374 n375 n376 n378 n379 n464 => ((hGq148 k n464)).trans (((hGq132 k n373 n374 n375 n376)).trans (((hGf117 k n373 n374 n375 n376 n378 n379)).trans (((hGq115 k n373 n374 n375 n376)).trans ((upf_fr ef114 n379).trans (upf_fr ef113 n378)))))), (fun k n30 n31 => ((hFq148 k n30)).trans ((hFA118 k n31))), Or.inr (⟨rfl, trivial⟩)⟩
                  · skip
                    by_cases h151 : rq1.toInt = 3
                    · skip
                      rw [show rq1 = 3 from ti_eq (h151.trans kz_3.symm)]
                      have hlk152 := kz_3
                      have hdue : v129.toInt = 1 := by rw [ev129, h151]; decide +kernel
                      refine pe_aload_n (j := 0) (by decide +kernel) rfl ?_
                      refine pe_iload_n (j := 2) (by decide +kernel) rfl ?_
                      refine pe_iload_n (j := 3) (by decide +kernel) rfl ?_
                      refine pz_callV (j := 95) (mj := 49) (by decide +kernel) (cll_V (args := [.int y119, .int 3]) (n := 2) (by decide +kernel) rfl rfl cd_o23 (by decide +kernel) (Nat.le_of_ble_eq_true rfl) (Nat.le_of_ble_eq_true rfl)) (CM_49_3 hX hIq132) (fun q153a q153b q153c q153d hqq153 => ?_)
                      obtain ⟨f154, A155, eq153, hIq153, hGq153, hFq153, kq153⟩ := hqq153
                      cases eq153
                      refine ⟨rfl, rfl, ?_⟩
                      show pmE pg X pg_tyl pg_cl (d + 7) 29 143 [.ref 23, .int 1, .int 3, .int y119, .int y120] [] (cd f154 A155 R wr) _
                      refine pe_iconstv (n := 1) (v := 1) (by decide +kernel) (by decide +kernel) ?_
                      exact pe_iret (by decide +kernel) rfl rfl ⟨f154, A155, 1, rfl, hIq153, (fun k n373 n374 n375 n376 n378 n379 n464 => ((hGq153 k n464)).trans (((hGq132 k n373 n374 n375 n376)).trans (((hGf117 k n373 n374 n375 n376 n378 n379)).trans (((hGq115 k n373 n374 n375 n376)).trans ((upf_fr ef114 n379).trans (upf_fr ef113 n378)))))), (fun k n30 n31 => ((hFq153 k n30)).trans ((hFA118 k n31))), Or.inr (⟨rfl, trivial⟩)⟩
                    · skip
                      by_cases h156 : rq1.toInt = 4
                      · skip
                        rw [show rq1 = 4 from ti_eq (h156.trans kz_4.symm)]
                        have hlk157 := kz_4
                        have hdue : v129.toInt = 1 := by rw [ev129, h156]; decide +kernel
                        refine pe_aload_n (j := 0) (by decide +kernel) rfl ?_
                        refine pe_iload_n (j := 2) (by decide +kernel) rfl ?_
                        refine pe_iload_n (j := 3) (by decide +kernel) rfl ?_
                        refine pz_callV (j := 95) (mj := 49) (by decide +kernel) (cll_V (args := [.int y119, .int 4]) (n := 2) (by decide +kernel) rfl rfl cd_o23 (by decide +kernel) (Nat.le_of_ble_eq_true rfl) (Nat.le_of_ble_eq_true rfl)) (CM_49_4 hX hIq132) (fun q158a q158b q158c q158d hqq158 => ?_)
                        obtain ⟨f159, A160, eq158, hIq158, hGq158, hFq158, kq158⟩ := hqq158
                        cases eq158
                        refine ⟨rfl, rfl, ?_⟩
                        show pmE pg X pg_tyl pg_cl (d + 7) 29 143 [.ref 23, .int 1, .int 4, .int y119, .int y120] [] (cd f159 A160 R wr) _
                        refine pe_iconstv (n := 1) (v := 1) (by decide +kernel) (by decide +kernel) ?_
                        exact pe_iret (by decide +kernel) rfl rfl ⟨f159, A160, 1, rfl, hIq158, (fun k n373 n374 n375 n376 n378 n379 n464 => ((hGq158 k n464)).trans (((hGq132 k n373 n374 n375 n376)).trans (((hGf117 k n373 n374 n375 n376 n378 n379)).trans (((hGq115 k n373 n374 n375 n376)).trans ((upf_fr ef114 n379).trans (upf_fr ef113 n378)))))), (fun k n30 n31 => ((hFq158 k n30)).trans ((hFA118 k n31))), Or.inr (⟨rfl, trivial⟩)⟩
                      · skip
                        by_cases h161 : rq1.toInt = 5
                        · skip
                          rw [show rq1 = 5 from ti_eq (h161.trans kz_5.symm)]
                          have hlk162 := kz_5
                          have hdue : v129.toInt = 0 := by rw [ev129, h161]; decide +kernel
                          refine pe_aload_n (j := 0) (by decide +kernel) rfl ?_
                          refine pe_iload_n (j := 2) (by decide +kernel) rfl ?_
                          refine pe_iload_n (j := 3) (by decide +kernel) rfl ?_
                          refine pz_callV (j := 95) (mj := 49) (by decide +kernel) (cll_V (args := [.int y119, .int 5]) (n := 2) (by decide +kernel) rfl rfl cd_o23 (by decide +kernel) (Nat.le_of_ble_eq_true rfl) (Nat.le_of_ble_eq_true rfl)) (CM_49_5 hX hIq132) (fun q163a q163b q163c q163d hqq163 => ?_)
                          obtain ⟨f164, A165, eq163, hIq163, hGq163, hFq163, kq163⟩ := hqq163
                          cases eq163
                          refine ⟨rfl, rfl, ?_⟩
                          show pmE pg X pg_tyl pg_cl (d + 7) 29 143 [.ref 23, .int 1, .int 5, .int y119, .int y120] [] (cd f164 A165 R wr) _
                          refine pe_iconstv (n := 1) (v := 1) (by decide +kernel) (by decide +kernel) ?_
                          exact pe_iret (by decide +kernel) rfl rfl ⟨f164, A165, 1, rfl, hIq163, (fun k n373 n374 n375 n376 n378 n379 n464 => ((hGq163 k n464)).trans (((hGq132 k n373 n374 n375 n376)).trans (((hGf117 k n373 n374 n375 n376 n378 n379)).trans (((hGq115 k n373 n374 n375 n376)).trans ((upf_fr ef114 n379).trans (upf_fr ef113 n378)))))), (fun k n30 n31 => ((hFq163 k n30)).trans ((hFA118 k n31))), Or.inr (⟨rfl, trivial⟩)⟩
                        · skip
                          exfalso; omega
          · skip
            refine pe_iconstv (n := 0) (v := 0) (by decide +kernel) (by decide +kernel) ?_
            exact pe_iret (by decide +kernel) rfl rfl ⟨f117, A118, 0, rfl, hIy121, (fun k n373 n374 n375 n376 n378 n379 n464 => ((hGf117 k n373 n374 n375 n376 n378 n379)).trans (((hGq115 k n373 n374 n375 n376)).trans ((upf_fr ef114 n379).trans (upf_fr ef113 n378)))), (fun k n30 n31 => (hFA118 k n31)), Or.inl ⟨rfl, trivial⟩⟩
  · skip
    refine pe_iconstv (n := 0) (v := 0) (by decide +kernel) (by decide +kernel) ?_
    exact pe_iret (by decide +kernel) rfl rfl ⟨f, A, 0, rfl, hI, (fun k n373 n374 n375 n376 n378 n379 n464 => rfl), (fun k n30 n31 => rfl), Or.inl ⟨rfl, trivial⟩⟩
set_option maxRecDepth 100000 in
set_option maxHeartbeats 8000000 in
theorem CL_18_56 {X : pm_X} {d : Nat} {wr : pm_W} {Q : pm_R → Prop} {f0 : Nat → Int32} {A0 : Nat → List Int32} {R : Nat → Value} {x2 : Int32} (hX : XO X) (hR4 : R 4 = .ref 4) (gx2 : (0 ≤ x2.toInt ∧ x2.toInt ≤ 600)) (k_100_0 : ∀ (f' : Nat → Int32) (A' : Nat → List Int32) (y4 : Int32), CI f' A' R → (∀ k : Nat, k ≠ 373 → k ≠ 374 → k ≠ 375 → k ≠ 376 → k ≠ 377 → k ≠ 378 → k ≠ 379 → k ≠ 384 → k ≠ 385 → k ≠ 386 → k ≠ 464 → f' k = f0 k) → (∀ k : Nat, k ≠ 25 → k ≠ 26 → k ≠ 27 → k ≠ 28 → k ≠ 30 → k ≠ 31 → A' k = A0 k) → (0 ≤ y4.toInt ∧ y4.toInt ≤ 601) → pmE pg X pg_tyl pg_cl (d + 8) 18 100 [.ref 23, .ref 4, .int x2, .int 0, .int y4] [] (cd f' A' R wr) Q) (kr_void : ∀ (f' : Nat → Int32) (A' : Nat → List Int32), CI f' A' R → (∀ k : Nat, k ≠ 373 → k ≠ 374 → k ≠ 375 → k ≠ 376 → k ≠ 377 → k ≠ 378 → k ≠ 379 → k ≠ 384 → k ≠ 385 → k ≠ 386 → k ≠ 464 → f' k = f0 k) → (∀ k : Nat, k ≠ 25 → k ≠ 26 → k ≠ 27 → k ≠ 28 → k ≠ 30 → k ≠ 31 → A' k = A0 k) → Q (none, cd f' A' R wr, 0, 0)) : ∀ (m : Nat) (f : Nat → Int32) (A : Nat → List Int32) (x4 : Int32), CI f A R → (∀ k : Nat, k ≠ 373 → k ≠ 374 → k ≠ 375 → k ≠ 376 → k ≠ 377 → k ≠ 378 → k ≠ 379 → k ≠ 384 → k ≠ 385 → k ≠ 386 → k ≠ 464 → f k = f0 k) → (∀ k : Nat, k ≠ 25 → k ≠ 26 → k ≠ 27 → k ≠ 28 → k ≠ 30 → k ≠ 31 → A k = A0 k) → (0 ≤ x4.toInt ∧ x4.toInt ≤ 601) → 601 - x4.toInt < (m : Int) → pmE pg X pg_tyl pg_cl (d + 8) 18 56 [.ref 23, .ref 4, .int x2, .int 0, .int x4] [] (cd f A R wr) Q := by
  intro m
  induction m with
  | zero =>
    intro f A x4 hI hG hF gx4 hm
    exfalso
    have l0 := zi_lo x4
    have u0 := zi_hi x4
    omega
  | succ m ih =>
    intro f A x4 hI hG hF gx4 hm
    refine pe_iload (j := 4) (by decide +kernel) rfl ?_
    refine pe_aload_n (j := 0) (by decide +kernel) rfl ?_
    refine pe_get (j := 43) (ci := 4) (n := 4) (by decide +kernel) (by decide +kernel) cd_o23 rfl ?_
    have hr_f_372 := cf_372 hI
    refine pz_icmp_gt (off := 38) (t := 100) (by decide +kernel) (by decide) rfl rfl rfl (fun h1 => ?_) (fun h1 => ?_)
    · skip
      exact k_100_0 f A x4 hI (fun k n373 n374 n375 n376 n377 n378 n379 n384 n385 n386 n464 => (hG k n373 n374 n375 n376 n377 n378 n379 n384 n385 n386 n464)) (fun k n25 n26 n27 n28 n30 n31 => (hF k n25 n26 n27 n28 n30 n31)) (by omega)
    · skip
      refine pe_aload_n (j := 0) (by decide +kernel) rfl ?_
      refine pe_get (j := 62) (ci := 4) (n := 6) (by decide +kernel) (by decide +kernel) cd_o23 rfl ?_
      have hr_f_374 := cf_374 hI
      refine pz_if_eq (off := 31) (t := 100) (by decide +kernel) (by decide) rfl rfl (fun h2 => ?_) (fun h2 => ?_)
      · skip
        exact k_100_0 f A x4 hI (fun k n373 n374 n375 n376 n377 n378 n379 n384 n385 n386 n464 => (hG k n373 n374 n375 n376 n377 n378 n379 n384 n385 n386 n464)) (fun k n25 n26 n27 n28 n30 n31 => (hF k n25 n26 n27 n28 n30 n31)) (by omega)
      · skip
        refine pe_aload_n (j := 0) (by decide +kernel) rfl ?_
        refine pe_iload_n (j := 3) (by decide +kernel) rfl ?_
        refine pz_callV (j := 65) (mj := 29) (by decide +kernel) (cll_V (args := [.int 0]) (n := 1) (by decide +kernel) rfl rfl cd_o23 (by decide +kernel) (Nat.le_of_ble_eq_true rfl) (Nat.le_of_ble_eq_true rfl)) (CM_29 hX hI (hR4)) (fun q3a q3b q3c q3d hqq3 => ?_)
        obtain ⟨f4, A5, rq3, eq3, hIq3, hGq3, hFq3, kq3⟩ := hqq3
        cases eq3
        refine ⟨rfl, rfl, ?_⟩
        rcases kq3 with kq3 | kq3
        · skip
          obtain ⟨erq3, kq3⟩ := kq3
          subst erq3
          show pmE pg X pg_tyl pg_cl (d + 8) 18 77 [.ref 23, .ref 4, .int x2, .int 0, .int x4] [.int 0] (cd f4 A5 R wr) _
          refine pz_if_ne (off := 17) (t := 94) (by decide +kernel) (by decide) rfl kz_0 (fun h6 => by omega) (fun h6 => ?_)
          refine pe_aload_n (j := 0) (by decide +kernel) rfl ?_
          refine pe_iconstv (n := 1) (v := 1) (by decide +kernel) (by decide +kernel) ?_
          refine cz_put378 (jj := 53) (by decide +kernel) (by decide +kernel) hIq3 (fun f7 ef7 hIf7 => ?_)
          refine pe_aload_n (j := 0) (by decide +kernel) rfl ?_
          refine pe_aload_n (j := 0) (by decide +kernel) rfl ?_
          refine pe_get (j := 69) (ci := 4) (n := 7) (by decide +kernel) (by decide +kernel) cd_o23 rfl ?_
          have hr_f4_375 := cf_375 hIq3
          refine pe_top (v := (f4 375)) (upf_fr ef7 (by decide)) ?_
          refine cz_put379 (jj := 56) (by decide +kernel) (by decide +kernel) hIf7 (fun f8 ef8 hIf8 => ?_)
          exact pe_vret (by decide +kernel) rfl (kr_void f8 A5 hIf8 (fun k n373 n374 n375 n376 n377 n378 n379 n384 n385 n386 n464 => (upf_fr ef8 n379).trans ((upf_fr ef7 n378).trans (((hGq3 k n373 n374 n375 n376 n377 n378 n379 n384 n385 n386 n464)).trans ((hG k n373 n374 n375 n376 n377 n378 n379 n384 n385 n386 n464))))) (fun k n25 n26 n27 n28 n30 n31 => ((hFq3 k n25 n26 n27 n28 n30 n31)).trans ((hF k n25 n26 n27 n28 n30 n31))))
        · skip
          obtain ⟨erq3, kq3⟩ := kq3
          subst erq3
          show pmE pg X pg_tyl pg_cl (d + 8) 18 77 [.ref 23, .ref 4, .int x2, .int 0, .int x4] [.int 1] (cd f4 A5 R wr) _
          refine pz_if_ne (off := 17) (t := 94) (by decide +kernel) (by decide) rfl kz_1 (fun h9 => ?_) (fun h9 => by omega)
          refine pz_iinc (j := 4) (n := 1) (by decide +kernel) rfl rfl (by decide +kernel) (by omega) (by omega) (fun z10 hz10 => ?_)
          show pmE pg X pg_tyl pg_cl (d + 8) 18 97 [.ref 23, .ref 4, .int x2, .int 0, .int z10] [] (cd f4 A5 R wr) _
          refine pe_goto (off := (-41)) (t := 56) (by decide +kernel) (by decide) rfl ?_
          exact ih f4 A5 z10 hIq3 (fun k n373 n374 n375 n376 n377 n378 n379 n384 n385 n386 n464 => ((hGq3 k n373 n374 n375 n376 n377 n378 n379 n384 n385 n386 n464)).trans ((hG k n373 n374 n375 n376 n377 n378 n379 n384 n385 n386 n464))) (fun k n25 n26 n27 n28 n30 n31 => ((hFq3 k n25 n26 n27 n28 n30 n31)).trans ((hF k n25 n26 n27 n28 n30 n31))) (by omega) (by omega)
set_option maxRecDepth 100000 in
set_option maxHeartbeats 8000000 in
theorem CM_18 {X : pm_X} {d : Nat} {wr : pm_W} {f : Nat → Int32} {A : Nat → List Int32} {R : Nat → Value} {x2 : Int32} (hX : XO X) (hI : CI f A R) (gx2 : (0 ≤ x2.toInt ∧ x2.toInt ≤ 600)) : pmE pg X pg_tyl pg_cl (d + 8) 18 0 (pm_ent (pm_max pg 18) [.ref 23, .ref 4, .int x2, .int 0]) [] (cd f A R wr) (fun q => ∃ (f' : Nat → Int32) (A' : Nat → List Int32) (R' : Nat → Value), q = (none, cd f' A' R' wr, 0, 0) ∧ CI f' A' R' ∧ (∀ k : Nat, k ≠ 372 → k ≠ 373 → k ≠ 374 → k ≠ 375 → k ≠ 376 → k ≠ 377 → k ≠ 378 → k ≠ 379 → k ≠ 384 → k ≠ 385 → k ≠ 386 → k ≠ 464 → f' k = f k) ∧ (∀ k : Nat, k ≠ 25 → k ≠ 26 → k ≠ 27 → k ≠ 28 → k ≠ 30 → k ≠ 31 → A' k = A k) ∧ (∀ k : Nat, k ≠ 4 → R' k = R k) ∧ ((True))) := by
  show pmE pg X pg_tyl pg_cl (d + 8) 18 0 [.ref 23, .ref 4, .int x2, .int 0, pm_dead] [] (cd f A R wr) _
  refine pe_aload_n (j := 0) (by decide +kernel) rfl ?_
  refine pe_get (j := 12) (ci := 4) (n := 0) (by decide +kernel) (by decide +kernel) cd_o23 rfl ?_
  refine pi_V (j := 33) (mj := 19) (by decide +kernel) (cll_V (args := []) (n := 0) (by decide +kernel) rfl rfl cd_o24 (by decide +kernel) (Nat.le_of_ble_eq_true rfl) (Nat.le_of_ble_eq_true rfl)) ?_
  show pmE pg X pg_tyl pg_cl (d + 7) 19 0 [.ref 24] [] (cd f A R wr) _
  refine pe_aload_n (j := 0) (by decide +kernel) rfl ?_
  refine pe_iconstv (n := 4) (v := 4) (by decide +kernel) (by decide +kernel) ?_
  refine cz_put384 (jj := 9) (by decide +kernel) (by decide +kernel) hI (by decide +kernel) (by decide +kernel) (fun f1 ef1 hIf1 => ?_)
  refine pe_aload_n (j := 0) (by decide +kernel) rfl ?_
  refine pe_iconstv (n := 0) (v := 0) (by decide +kernel) (by decide +kernel) ?_
  refine cz_put385 (jj := 28) (by decide +kernel) (by decide +kernel) hIf1 (fun f2 ef2 hIf2 => ?_)
  refine pe_aload_n (j := 0) (by decide +kernel) rfl ?_
  refine pe_iconstv (n := 0) (v := 0) (by decide +kernel) (by decide +kernel) ?_
  refine cz_put386 (jj := 31) (by decide +kernel) (by decide +kernel) hIf2 (by decide +kernel) (by decide +kernel) (fun f3 ef3 hIf3 => ?_)
  refine pe_aload_n (j := 0) (by decide +kernel) rfl ?_
  refine pe_get (j := 15) (ci := 9) (n := 3) (by decide +kernel) (by decide +kernel) cd_o24 rfl ?_
  refine pe_iconstv (n := 0) (v := 0) (by decide +kernel) (by decide +kernel) ?_
  refine cz_fill (j := 34) (k := 25) (n := 81) (by decide +kernel) (by decide +kernel) rfl cd_a25 (fun _ => cd_s25) hIf3 (cl_25 hIf3) (by decide +kernel) (ct_no (by decide +kernel)) (fun A4 eA4 hIA4 => ?_)
  refine pe_aload_n (j := 0) (by decide +kernel) rfl ?_
  refine pe_get (j := 19) (ci := 9) (n := 4) (by decide +kernel) (by decide +kernel) cd_o24 rfl ?_
  refine pe_iconstv (n := 0) (v := 0) (by decide +kernel) (by decide +kernel) ?_
  refine cz_fill (j := 34) (k := 26) (n := 9) (by decide +kernel) (by decide +kernel) rfl cd_a26 (fun _ => cd_s26) hIA4 (cl_26 hIA4) (by decide +kernel) (ct_no (by decide +kernel)) (fun A5 eA5 hIA5 => ?_)
  refine pe_aload_n (j := 0) (by decide +kernel) rfl ?_
  refine pe_get (j := 22) (ci := 9) (n := 5) (by decide +kernel) (by decide +kernel) cd_o24 rfl ?_
  refine pe_iconstv (n := 0) (v := 0) (by decide +kernel) (by decide +kernel) ?_
  refine cz_fill (j := 34) (k := 27) (n := 9) (by decide +kernel) (by decide +kernel) rfl cd_a27 (fun _ => cd_s27) hIA5 (cl_27 hIA5) (by decide +kernel) (ct_no (by decide +kernel)) (fun A6 eA6 hIA6 => ?_)
  refine pe_aload_n (j := 0) (by decide +kernel) rfl ?_
  refine pe_get (j := 25) (ci := 9) (n := 6) (by decide +kernel) (by decide +kernel) cd_o24 rfl ?_
  refine pe_iconstv (n := 0) (v := 0) (by decide +kernel) (by decide +kernel) ?_
  refine cz_fill (j := 34) (k := 28) (n := 28) (by decide +kernel) (by decide +kernel) rfl cd_a28 (fun _ => cd_s28) hIA6 (cl_28 hIA6) (by decide +kernel) (ct_one (kd := 0) (P := fun kd => ∀ i, CT kd i ((List.replicate 28 (0 : Int32)).getD i 0).toInt) (by decide +kernel) (fun i => rep_P (P := fun z => CT 0 i z.toInt) ct0_z ct0_z)) (fun A7 eA7 hIA7 => ?_)
  refine pe_vret (by decide +kernel) rfl ⟨rfl, rfl, ?_⟩
  show pmE pg X pg_tyl pg_cl (d + 8) 18 7 [.ref 23, .ref 4, .int x2, .int 0, pm_dead] [] (cd f3 A7 R wr) _
  refine pe_aload_n (j := 0) (by decide +kernel) rfl ?_
  refine pe_get (j := 21) (ci := 4) (n := 1) (by decide +kernel) (by decide +kernel) cd_o23 rfl ?_
  refine pi_V (j := 36) (mj := 21) (by decide +kernel) (cll_V (args := []) (n := 0) (by decide +kernel) rfl rfl cd_o29 (by decide +kernel) (Nat.le_of_ble_eq_true rfl) (Nat.le_of_ble_eq_true rfl)) ?_
  show pmE pg X pg_tyl pg_cl (d + 7) 21 0 [.ref 29] [] (cd f3 A7 R wr) _
  refine pe_aload_n (j := 0) (by decide +kernel) rfl ?_
  refine pe_iconstv (n := 0) (v := 0) (by decide +kernel) (by decide +kernel) ?_
  refine cz_put464 (jj := 15) (by decide +kernel) (by decide +kernel) hIA7 (by decide +kernel) (by decide +kernel) (fun f8 ef8 hIf8 => ?_)
  refine pe_vret (by decide +kernel) rfl ⟨rfl, rfl, ?_⟩
  show pmE pg X pg_tyl pg_cl (d + 8) 18 14 [.ref 23, .ref 4, .int x2, .int 0, pm_dead] [] (cd f8 A7 R wr) _
  refine pe_aload_n (j := 0) (by decide +kernel) rfl ?_
  refine pe_aload_n (j := 1) (by decide +kernel) rfl ?_
  refine cz_putR4 (jj := 29) (ty := (.array .byte)) (by decide +kernel) (by decide +kernel) hIf8 pm_fit_ary ⟨_, rfl⟩ (fun R9 eR9 hIR9 => ?_)
  refine pe_aload_n (j := 0) (by decide +kernel) rfl ?_
  refine pe_iload_n (j := 2) (by decide +kernel) rfl ?_
  refine pe_aload_n (j := 1) (by decide +kernel) rfl ?_
  refine pe_alen (by decide +kernel) cd_a4 (by decide) ?_
  refine pe_top (v := 600) ((congrArg Int32.ofNat (show pm_len (.inl (A7 4)) = 600 from (cl_4 hIR9))).trans (by decide +kernel)) ?_
  have hl11 := kz_600
  refine pz_min (j := 37) (c := 0) (by decide +kernel) (by decide +kernel) (Nat.le_of_ble_eq_true rfl) rfl kz_600 (by omega) (by omega) (fun z10 hz10 => ?_)
  refine cz_put372 (jj := 43) (by decide +kernel) (by decide +kernel) hIR9 (by omega) (by omega) (fun f12 ef12 hIf12 => ?_)
  refine pe_aload_n (j := 0) (by decide +kernel) rfl ?_
  refine pe_iconstv (n := 0) (v := 0) (by decide +kernel) (by decide +kernel) ?_
  refine cz_put373 (jj := 47) (by decide +kernel) (by decide +kernel) hIf12 (by decide +kernel) (by decide +kernel) (fun f13 ef13 hIf13 => ?_)
  refine pe_aload_n (j := 0) (by decide +kernel) rfl ?_
  refine pe_iconstv (n := (-1)) (v := (-1)) (by decide +kernel) (by decide +kernel) ?_
  refine cz_put377 (jj := 50) (by decide +kernel) (by decide +kernel) hIf13 (fun f14 ef14 hIf14 => ?_)
  refine pe_aload_n (j := 0) (by decide +kernel) rfl ?_
  refine pe_iconstv (n := 0) (v := 0) (by decide +kernel) (by decide +kernel) ?_
  refine cz_put378 (jj := 53) (by decide +kernel) (by decide +kernel) hIf14 (fun f15 ef15 hIf15 => ?_)
  refine pe_aload_n (j := 0) (by decide +kernel) rfl ?_
  refine pe_iconstv (n := (-1)) (v := (-1)) (by decide +kernel) (by decide +kernel) ?_
  refine cz_put379 (jj := 56) (by decide +kernel) (by decide +kernel) hIf15 (fun f16 ef16 hIf16 => ?_)
  refine pe_aload_n (j := 0) (by decide +kernel) rfl ?_
  refine pz_callV (j := 59) (mj := 23) (by decide +kernel) (cll_V (args := []) (n := 0) (by decide +kernel) rfl rfl cd_o23 (by decide +kernel) (Nat.le_of_ble_eq_true rfl) (Nat.le_of_ble_eq_true rfl)) (CM_23 hX hIf16 (upr_at eR9)) (fun q17a q17b q17c q17d hqq17 => ?_)
  obtain ⟨f18, eq17, hIq17, hGq17, kq17⟩ := hqq17
  cases eq17
  refine ⟨rfl, rfl, ?_⟩
  show pmE pg X pg_tyl pg_cl (d + 8) 18 53 [.ref 23, .ref 4, .int x2, .int 0, pm_dead] [] (cd f18 A7 R9 wr) _
  refine pe_iconstv (n := 0) (v := 0) (by decide +kernel) (by decide +kernel) ?_
  refine pe_istore (j := 4) (ls' := [.ref 23, .ref 4, .int x2, .int 0, .int 0]) (by decide +kernel) (Nat.le_of_ble_eq_true rfl) rfl ?_
  refine CL_18_56 hX (upr_at eR9) (by omega) (fun f19 A20 y21 hIy22 hGf19 hFA20 gy21 => ?_) (fun f23 A24 hIy25 hGf23 hFA24 => ⟨f23, A24, R9, rfl, hIy25, (fun k n372 n373 n374 n375 n376 n377 n378 n379 n384 n385 n386 n464 => ((hGf23 k n373 n374 n375 n376 n377 n378 n379 n384 n385 n386 n464)).trans (((hGq17 k n373 n374 n375 n376)).trans ((upf_fr ef16 n379).trans ((upf_fr ef15 n378).trans ((upf_fr ef14 n377).trans ((upf_fr ef13 n373).trans ((upf_fr ef12 n372).trans ((upf_fr ef8 n464).trans ((upf_fr ef3 n386).trans ((upf_fr ef2 n385).trans (upf_fr ef1 n384))))))))))), (fun k n25 n26 n27 n28 n30 n31 => ((hFA24 k n25 n26 n27 n28 n30 n31)).trans ((upa_fr eA7 n28).trans ((upa_fr eA6 n27).trans ((upa_fr eA5 n26).trans (upa_fr eA4 n25))))), (fun k n4 => upr_fr eR9 n4), trivial⟩) 602 f18 A7 0 hIq17 (fun k _ _ _ _ _ _ _ _ _ _ _ => rfl) (fun k _ _ _ _ _ _ => rfl) (by decide +kernel) (by decide +kernel)
  refine pe_iload_n (j := 3) (by decide +kernel) rfl ?_
  refine pz_if_ne (off := 26) (t := 127) (by decide +kernel) (by decide) rfl kz_0 (fun h26 => by omega) (fun h26 => ?_)
  refine pe_aload_n (j := 0) (by decide +kernel) rfl ?_
  refine pe_get (j := 50) (ci := 4) (n := 9) (by decide +kernel) (by decide +kernel) cd_o23 rfl ?_
  refine pe_aload_n (j := 0) (by decide +kernel) rfl ?_
  refine pe_get (j := 12) (ci := 4) (n := 0) (by decide +kernel) (by decide +kernel) cd_o23 rfl ?_
  refine pe_get (j := 72) (ci := 9) (n := 0) (by decide +kernel) (by decide +kernel) cd_o24 rfl ?_
  have hr_f19_384 := cf_384 hIy22
  have lw28 := zi_lo (f19 377)
  have uw28 := zi_hi (f19 377)
  refine pz_icmp_lt (off := 12) (t := 127) (by decide +kernel) (by decide) rfl rfl rfl (fun h27 => ?_) (fun h27 => ?_)
  · skip
    exact pe_vret (by decide +kernel) rfl ⟨f19, A20, R9, rfl, hIy22, (fun k n372 n373 n374 n375 n376 n377 n378 n379 n384 n385 n386 n464 => ((hGf19 k n373 n374 n375 n376 n377 n378 n379 n384 n385 n386 n464)).trans (((hGq17 k n373 n374 n375 n376)).trans ((upf_fr ef16 n379).trans ((upf_fr ef15 n378).trans ((upf_fr ef14 n377).trans ((upf_fr ef13 n373).trans ((upf_fr ef12 n372).trans ((upf_fr ef8 n464).trans ((upf_fr ef3 n386).trans ((upf_fr ef2 n385).trans (upf_fr ef1 n384))))))))))), (fun k n25 n26 n27 n28 n30 n31 => ((hFA20 k n25 n26 n27 n28 n30 n31)).trans ((upa_fr eA7 n28).trans ((upa_fr eA6 n27).trans ((upa_fr eA5 n26).trans (upa_fr eA4 n25))))), (fun k n4 => upr_fr eR9 n4), trivial⟩
  · skip
    refine pe_aload_n (j := 0) (by decide +kernel) rfl ?_
    refine pe_iconstv (n := 4) (v := 4) (by decide +kernel) (by decide +kernel) ?_
    refine pe_aload_n (j := 0) (by decide +kernel) rfl ?_
    refine pe_get (j := 43) (ci := 4) (n := 4) (by decide +kernel) (by decide +kernel) cd_o23 rfl ?_
    refine pe_top (v := z10) (((hGf19 372 (by decide) (by decide) (by decide) (by decide) (by decide) (by decide) (by decide) (by decide) (by decide) (by decide) (by decide))).trans (((hGq17 372 (by decide) (by decide) (by decide) (by decide))).trans ((upf_fr ef16 (by decide)).trans ((upf_fr ef15 (by decide)).trans ((upf_fr ef14 (by decide)).trans ((upf_fr ef13 (by decide)).trans (upf_at ef12))))))) ?_
    refine pi_V (j := 75) (mj := 46) (by decide +kernel) (cll_V (args := [.int z10, .int 4]) (n := 2) (by decide +kernel) rfl rfl cd_o23 (by decide +kernel) (Nat.le_of_ble_eq_true rfl) (Nat.le_of_ble_eq_true rfl)) ?_
    show pmE pg X pg_tyl pg_cl (d + 7) 46 0 [.ref 23, .int 4, .int z10] [] (cd f19 A20 R9 wr) _
    refine pe_aload_n (j := 0) (by decide +kernel) rfl ?_
    refine pe_get (j := 53) (ci := 4) (n := 10) (by decide +kernel) (by decide +kernel) cd_o23 rfl ?_
    have lw30 := zi_lo (f19 378)
    have uw30 := zi_hi (f19 378)
    refine pz_if_ne (off := 13) (t := 17) (by decide +kernel) (by decide) rfl rfl (fun h29 => ?_) (fun h29 => ?_)
    · skip
      refine pe_vret (by decide +kernel) rfl ⟨rfl, rfl, ?_⟩
      show pmE pg X pg_tyl pg_cl (d + 8) 18 127 [.ref 23, .ref 4, .int x2, .int 0, .int y21] [] (cd f19 A20 R9 wr) _
      exact pe_vret (by decide +kernel) rfl ⟨f19, A20, R9, rfl, hIy22, (fun k n372 n373 n374 n375 n376 n377 n378 n379 n384 n385 n386 n464 => ((hGf19 k n373 n374 n375 n376 n377 n378 n379 n384 n385 n386 n464)).trans (((hGq17 k n373 n374 n375 n376)).trans ((upf_fr ef16 n379).trans ((upf_fr ef15 n378).trans ((upf_fr ef14 n377).trans ((upf_fr ef13 n373).trans ((upf_fr ef12 n372).trans ((upf_fr ef8 n464).trans ((upf_fr ef3 n386).trans ((upf_fr ef2 n385).trans (upf_fr ef1 n384))))))))))), (fun k n25 n26 n27 n28 n30 n31 => ((hFA20 k n25 n26 n27 n28 n30 n31)).trans ((upa_fr eA7 n28).trans ((upa_fr eA6 n27).trans ((upa_fr eA5 n26).trans (upa_fr eA4 n25))))), (fun k n4 => upr_fr eR9 n4), trivial⟩
    · skip
      refine pe_aload_n (j := 0) (by decide +kernel) rfl ?_
      refine pe_iload_n (j := 1) (by decide +kernel) rfl ?_
      refine cz_put378 (jj := 53) (by decide +kernel) (by decide +kernel) hIy22 (fun f31 ef31 hIf31 => ?_)
      refine pe_aload_n (j := 0) (by decide +kernel) rfl ?_
      refine pe_iload_n (j := 2) (by decide +kernel) rfl ?_
      refine cz_put379 (jj := 56) (by decide +kernel) (by decide +kernel) hIf31 (fun f32 ef32 hIf32 => ?_)
      refine pe_vret (by decide +kernel) rfl ⟨rfl, rfl, ?_⟩
      show pmE pg X pg_tyl pg_cl (d + 8) 18 127 [.ref 23, .ref 4, .int x2, .int 0, .int y21] [] (cd f32 A20 R9 wr) _
      exact pe_vret (by decide +kernel) rfl ⟨f32, A20, R9, rfl, hIf32, (fun k n372 n373 n374 n375 n376 n377 n378 n379 n384 n385 n386 n464 => (upf_fr ef32 n379).trans ((upf_fr ef31 n378).trans (((hGf19 k n373 n374 n375 n376 n377 n378 n379 n384 n385 n386 n464)).trans (((hGq17 k n373 n374 n375 n376)).trans ((upf_fr ef16 n379).trans ((upf_fr ef15 n378).trans ((upf_fr ef14 n377).trans ((upf_fr ef13 n373).trans ((upf_fr ef12 n372).trans ((upf_fr ef8 n464).trans ((upf_fr ef3 n386).trans ((upf_fr ef2 n385).trans (upf_fr ef1 n384))))))))))))), (fun k n25 n26 n27 n28 n30 n31 => ((hFA20 k n25 n26 n27 n28 n30 n31)).trans ((upa_fr eA7 n28).trans ((upa_fr eA6 n27).trans ((upa_fr eA5 n26).trans (upa_fr eA4 n25))))), (fun k n4 => upr_fr eR9 n4), trivial⟩
