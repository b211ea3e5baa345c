set_option maxRecDepth 100000 in
set_option maxHeartbeats 8000000 in
theorem CL_18_1_56 {X : pm_X} {d : Nat} {wr : pm_W} {Q : pm_R → Prop} {f0 : Nat → Int32} {A0 : Nat → List Int32} {R : Nat → Value} {x2 : Int32} (hX : XO X) (hR4 : R 4 = .ref 4) (gx2 : (0 ≤ x2.toInt ∧ x2.toInt ≤ 600)) (k_100_0 : ∀ (f' : Nat → Int32) (A' : Nat → List Int32) (y4 : Int32), CI f' A' R → (∀ k : Nat, k ≠ 373 → k ≠ 374 → k ≠ 375 → k ≠ 376 → k ≠ 378 → k ≠ 379 → k ≠ 464 → f' k = f0 k) → (∀ k : Nat, k ≠ 30 → k ≠ 31 → A' k = A0 k) → (0 ≤ y4.toInt ∧ y4.toInt ≤ 601) → pmE pg X pg_tyl pg_cl (d + 8) 18 100 [.ref 23, .ref 4, .int x2, .int 1, .int y4] [] (cd f' A' R wr) Q) (kr_void : ∀ (f' : Nat → Int32) (A' : Nat → List Int32), CI f' A' R → (∀ k : Nat, k ≠ 373 → k ≠ 374 → k ≠ 375 → k ≠ 376 → k ≠ 378 → k ≠ 379 → k ≠ 464 → f' k = f0 k) → (∀ k : Nat, k ≠ 30 → k ≠ 31 → A' k = A0 k) → Q (none, cd f' A' R wr, 0, 0)) : ∀ (m : Nat) (f : Nat → Int32) (A : Nat → List Int32) (x4 : Int32), CI f A R → (∀ k : Nat, k ≠ 373 → k ≠ 374 → k ≠ 375 → k ≠ 376 → k ≠ 378 → k ≠ 379 → k ≠ 464 → f k = f0 k) → (∀ k : Nat, k ≠ 30 → k ≠ 31 → A k = A0 k) → (0 ≤ x4.toInt ∧ x4.toInt ≤ 601) → 601 - x4.toInt < (m : Int) → pmE pg X pg_tyl pg_cl (d + 8) 18 56 [.ref 23, .ref 4, .int x2, .int 1, .int x4] [] (cd f A R wr) Q := by
  intro m
  induction m with
  | zero =>
    intro f A x4 hI hG hF gx4 hm
    exfalso
    have l0 := zi_lo x4
    have u0 := zi_hi x4
    omega
  | succ m ih =>
    intro f A x4 hI hG hF gx4 hm
    refine pe_iload (j := 4) (by decide +kernel) rfl ?_
    refine pe_aload_n (j := 0) (by decide +kernel) rfl ?_
    refine pe_get (j := 43) (ci := 4) (n := 4) (by decide +kernel) (by decide +kernel) cd_o23 rfl ?_
    have hr_f_372 := cf_372 hI
    refine pz_icmp_gt (off := 38) (t := 100) (by decide +kernel) (by decide) rfl rfl rfl (fun h1 => ?_) (fun h1 => ?_)
    · skip
      exact k_100_0 f A x4 hI (fun k n373 n374 n375 n376 n378 n379 n464 => (hG k n373 n374 n375 n376 n378 n379 n464)) (fun k n30 n31 => (hF k n30 n31)) (by omega)
    · skip
      refine pe_aload_n (j := 0) (by decide +kernel) rfl ?_
      refine pe_get (j := 62) (ci := 4) (n := 6) (by decide +kernel) (by decide +kernel) cd_o23 rfl ?_
      have hr_f_374 := cf_374 hI
      refine pz_if_eq (off := 31) (t := 100) (by decide +kernel) (by decide) rfl rfl (fun h2 => ?_) (fun h2 => ?_)
      · skip
        exact k_100_0 f A x4 hI (fun k n373 n374 n375 n376 n378 n379 n464 => (hG k n373 n374 n375 n376 n378 n379 n464)) (fun k n30 n31 => (hF k n30 n31)) (by omega)
      · skip
        refine pe_aload_n (j := 0) (by decide +kernel) rfl ?_
        refine pe_iload_n (j := 3) (by decide +kernel) rfl ?_
        refine pz_callV (j := 65) (mj := 29) (by decide +kernel) (cll_V (args := [.int 1]) (n := 1) (by decide +kernel) rfl rfl cd_o23 (by decide +kernel) (Nat.le_of_ble_eq_true rfl) (Nat.le_of_ble_eq_true rfl)) (CM_29_1 hX hI (hR4)) (fun q3a q3b q3c q3d hqq3 => ?_)
        obtain ⟨f4, A5, rq3, eq3, hIq3, hGq3, hFq3, kq3⟩ := hqq3
        cases eq3
        refine ⟨rfl, rfl, ?_⟩
        rcases kq3 with kq3 | kq3
        · skip
          obtain ⟨erq3, kq3⟩ := kq3
          subst erq3
          show pmE pg X pg_tyl pg_cl (d + 8) 18 77 [.ref 23, .ref 4, .int x2, .int 1, .int x4] [.int 0] (cd f4 A5 R wr) _
          refine pz_if_ne (off := 17) (t := 94) (by decide +kernel) (by decide) rfl kz_0 (fun h6 => by omega) (fun h6 => ?_)
          refine pe_aload_n (j := 0) (by decide +kernel) rfl ?_
          refine pe_iconstv (n := 1) (v := 1) (by decide +kernel) (by decide +kernel) ?_
          refine cz_put378 (jj := 53) (by decide +kernel) (by decide +kernel) hIq3 (fun f7 ef7 hIf7 => ?_)
          refine pe_aload_n (j := 0) (by decide +kernel) rfl ?_
          refine pe_aload_n (j := 0) (by decide +kernel) rfl ?_
          refine pe_get (j := 69) (ci := 4) (n := 7) (by decide +kernel) (by decide +kernel) cd_o23 rfl ?_
          have hr_f4_375 := cf_375 hIq3
          refine pe_top (v := (f4 375)) (upf_fr ef7 (by decide)) ?_
          refine cz_put379 (jj := 56) (by decide +kernel) (by decide +kernel) hIf7 (fun f8 ef8 hIf8 => ?_)
          exact pe_vret (by decide +kernel) rfl (kr_void f8 A5 hIf8 (fun k n373 n374 n375 n376 n378 n379 n464 => (upf_fr ef8 n379).trans ((upf_fr ef7 n378).trans (((hGq3 k n373 n374 n375 n376 n378 n379 n464)).trans ((hG k n373 n374 n375 n376 n378 n379 n464))))) (fun k n30 n31 => ((hFq3 k n30 n31)).trans ((hF k n30 n31))))
        · skip
          obtain ⟨erq3, kq3⟩ := kq3
          subst erq3
          show pmE pg X pg_tyl pg_cl (d + 8) 18 77 [.ref 23, .ref 4, .int x2, .int 1, .int x4] [.int 1] (cd f4 A5 R wr) _
          refine pz_if_ne (off := 17) (t := 94) (by decide +kernel) (by decide) rfl kz_1 (fun h9 => ?_) (fun h9 => by omega)
          refine pz_iinc (j := 4) (n := 1) (by decide +kernel) rfl rfl (by decide +kernel) (by omega) (by omega) (fun z10 hz10 => ?_)
          show pmE pg X pg_tyl pg_cl (d + 8) 18 97 [.ref 23, .ref 4, .int x2, .int 1, .int z10] [] (cd f4 A5 R wr) _
          refine pe_goto (off := (-41)) (t := 56) (by decide +kernel) (by decide) rfl ?_
          exact ih f4 A5 z10 hIq3 (fun k n373 n374 n375 n376 n378 n379 n464 => ((hGq3 k n373 n374 n375 n376 n378 n379 n464)).trans ((hG k n373 n374 n375 n376 n378 n379 n464))) (fun k n30 n31 => ((hFq3 k n30 n31)).trans ((hF k n30 n31))) (by omega) (by omega)
set_option maxRecDepth 100000 in
set_option maxHeartbeats 8000000 in
theorem CM_18_1 {X : pm_X} {d : Nat} {wr : pm_W} {f : Nat → Int32} {A : Nat → List Int32} {R : Nat → Value} {x2 : Int32} (hX : XO X) (hI : CI f A R) (gx2 : (0 ≤ x2.toInt ∧ x2.toInt ≤ 600)) : pmE pg X pg_tyl pg_cl (d + 8) 18 0 (pm_ent (pm_max pg 18) [.ref 23, .ref 4, .int x2, .int 1]) [] (cd f A R wr) (fun q => ∃ (f' : Nat → Int32) (A' : Nat → List Int32) (R' : Nat → Value), q = (none, cd f' A' R' wr, 0, 0) ∧ CI f' A' R' ∧ (∀ k : Nat, k ≠ 372 → k ≠ 373 → k ≠ 374 → k ≠ 375 → k ≠ 376 → k ≠ 377 → k ≠ 378 → k ≠ 379 → k ≠ 384 → k ≠ 385 → k ≠ 386 → k ≠ 464 → f' k = f k) ∧ (∀ k : Nat, k ≠ 25 → k ≠ 26 → k ≠ 27 → k ≠ 28 → k ≠ 30 → k ≠ 31 → A' k = A k) ∧ (∀ k : Nat, k ≠ 4 → R' k = R k) ∧ ((True))) := by
  show pmE pg X pg_tyl pg_cl (d + 8) 18 0 [.ref 23, .ref 4, .int x2, .int 1, pm_dead] [] (cd f A R wr) _
  refine pe_aload_n (j := 0) (by decide +kernel) rfl ?_
  refine pe_get (j := 12) (ci := 4) (n := 0) (by decide +kernel) (by decide +kernel) cd_o23 rfl ?_
  refine pi_V (j := 33) (mj := 19) (by decide +kernel) (cll_V (args := []) (n := 0) (by decide +kernel) rfl rfl cd_o24 (by decide +kernel) (Nat.le_of_ble_eq_true rfl) (Nat.le_of_ble_eq_true rfl)) ?_
  show pmE pg X pg_tyl pg_cl (d + 7) 19 0 [.ref 24] [] (cd f A R wr) _
  refine pe_aload_n (j := 0) (by decide +kernel) rfl ?_
  refine pe_iconstv (n := 4) (v := 4) (by decide +kernel) (by decide +kernel) ?_
  refine cz_put384 (jj := 9) (by decide +kernel) (by decide +kernel) hI (by decide +kernel) (by decide +kernel) (fun f1 ef1 hIf1 => ?_)
  refine pe_aload_n (j := 0) (by decide +kernel) rfl ?_
  refine pe_iconstv (n := 0) (v := 0) (by decide +kernel) (by decide +kernel) ?_
  refine cz_put385 (jj := 28) (by decide +kernel) (by decide +kernel) hIf1 (fun f2 ef2 hIf2 => ?_)
  refine pe_aload_n (j := 0) (by decide +kernel) rfl ?_
  refine pe_iconstv (n := 0) (v := 0) (by decide +kernel) (by decide +kernel) ?_
  refine cz_put386 (jj := 31) (by decide +kernel) (by decide +kernel) hIf2 (by decide +kernel) (by decide +kernel) (fun f3 ef3 hIf3 => ?_)
  refine pe_aload_n (j := 0) (by decide +kernel) rfl ?_
  refine pe_get (j := 15) (ci := 9) (n := 3) (by decide +kernel) (by decide +kernel) cd_o24 rfl ?_
  refine pe_iconstv (n := 0) (v := 0) (by decide +kernel) (by decide +kernel) ?_
  refine cz_fill (j := 34) (k := 25) (n := 81) (by decide +kernel) (by decide +kernel) rfl cd_a25 (fun _ => cd_s25) hIf3 (cl_25 hIf3) (by decide +kernel) (ct_no (by decide +kernel)) (fun A4 eA4 hIA4 => ?_)
  refine pe_aload_n (j := 0) (by decide +kernel) rfl ?_
  refine pe_get (j := 19) (ci := 9) (n := 4) (by decide +kernel) (by decide +kernel) cd_o24 rfl ?_
  refine pe_iconstv (n := 0) (v := 0) (by decide +kernel) (by decide +kernel) ?_
  refine cz_fill (j := 34) (k := 26) (n := 9) (by decide +kernel) (by decide +kernel) rfl cd_a26 (fun _ => cd_s26) hIA4 (cl_26 hIA4) (by decide +kernel) (ct_no (by decide +kernel)) (fun A5 eA5 hIA5 => ?_)
  refine pe_aload_n (j := 0) (by decide +kernel) rfl ?_
  refine pe_get (j := 22) (ci := 9) (n := 5) (by decide +kernel) (by decide +kernel) cd_o24 rfl ?_
  refine pe_iconstv (n := 0) (v := 0) (by decide +kernel) (by decide +kernel) ?_
  refine cz_fill (j := 34) (k := 27) (n := 9) (by decide +kernel) (by decide +kernel) rfl cd_a27 (fun _ => cd_s27) hIA5 (cl_27 hIA5) (by decide +kernel) (ct_no (by decide +kernel)) (fun A6 eA6 hIA6 => ?_)
  refine pe_aload_n (j := 0) (by decide +kernel) rfl ?_
  refine pe_get (j := 25) (ci := 9) (n := 6) (by decide +kernel) (by decide +kernel) cd_o24 rfl ?_
  refine pe_iconstv (n := 0) (v := 0) (by decide +kernel) (by decide +kernel) ?_
  refine cz_fill (j := 34) (k := 28) (n := 28) (by decide +kernel) (by decide +kernel) rfl cd_a28 (fun _ => cd_s28) hIA6 (cl_28 hIA6) (by decide +kernel) (ct_one (kd := 0) (P := fun kd => ∀ i, CT kd i ((List.replicate 28 (0 : Int32)).getD i 0).toInt) (by decide +kernel) (fun i => rep_P (P := fun z => CT 0 i z.toInt) ct0_z ct0_z)) (fun A7 eA7 hIA7 => ?_)
  refine pe_vret (by decide +kernel) rfl ⟨rfl, rfl, ?_⟩
  show pmE pg X pg_tyl pg_cl (d + 8) 18 7 [.ref 23, .ref 4, .int x2, .int 1, pm_dead] [] (cd f3 A7 R wr) _
  refine pe_aload_n (j := 0) (by decide +kernel) rfl ?_
  refine pe_get (j := 21) (ci := 4) (n := 1) (by decide +kernel) (by decide +kernel) cd_o23 rfl ?_
  refine pi_V (j := 36) (mj := 21) (by decide +kernel) (cll_V (args := []) (n := 0) (by decide +kernel) rfl rfl cd_o29 (by decide +kernel) (Nat.le_of_ble_eq_true rfl) (Nat.le_of_ble_eq_true rfl)) ?_
  show pmE pg X pg_tyl pg_cl (d + 7) 21 0 [.ref 29] [] (cd f3 A7 R wr) _
  refine pe_aload_n (j := 0) (by decide +kernel) rfl ?_
  refine pe_iconstv (n := 0) (v := 0) (by decide +kernel) (by decide +kernel) ?_
  refine cz_put464 (jj := 15) (by decide +kernel) (by decide +kernel) hIA7 (by decide +kernel) (by decide +kernel) (fun f8 ef8 hIf8 => ?_)
  refine pe_vret (by decide +kernel) rfl ⟨rfl, rfl, ?_⟩
  show pmE pg X pg_tyl pg_cl (d + 8) 18 14 [.ref 23, .ref 4, .int x2, .int 1, pm_dead] [] (cd f8 A7 R wr) _
  refine pe_aload_n (j := 0) (by decide +kernel) rfl ?_
  refine pe_aload_n (j := 1) (by decide +kernel) rfl ?_
  refine cz_putR4 (jj := 29) (ty := (.array .byte)) (by decide +kernel) (by decide +kernel) hIf8 pm_fit_ary ⟨_, rfl⟩ (fun R9 eR9 hIR9 => ?_)
  refine pe_aload_n (j := 0) (by decide +kernel) rfl ?_
  refine pe_iload_n (j := 2) (by decide +kernel) rfl ?_
  refine pe_aload_n (j := 1) (by decide +kernel) rfl ?_
  refine pe_alen (by decide +kernel) cd_a4 (by decide) ?_
  refine pe_top (v := 600) ((congrArg Int32.ofNat (show pm_len (.inl (A7 4)) = 600 from (cl_4 hIR9))).trans (by decide +kernel)) ?_
  have hl11 := kz_600
  refine pz_min (j := 37) (c := 0) (by decide +kernel) (by decide +kernel) (Nat.le_of_ble_eq_true rfl) rfl kz_600 (by omega) (by omega) (fun z10 hz10 => ?_)
  refine cz_put372 (jj := 43) (by decide +kernel) (by decide +kernel) hIR9 (by omega) (by omega) (fun f12 ef12 hIf12 => ?_)
  refine pe_aload_n (j := 0) (by decide +kernel) rfl ?_
  refine pe_iconstv (n := 0) (v := 0) (by decide +kernel) (by decide +kernel) ?_
  refine cz_put373 (jj := 47) (by decide +kernel) (by decide +kernel) hIf12 (by decide +kernel) (by decide +kernel) (fun f13 ef13 hIf13 => ?_)
  refine pe_aload_n (j := 0) (by decide +kernel) rfl ?_
  refine pe_iconstv (n := (-1)) (v := (-1)) (by decide +kernel) (by decide +kernel) ?_
  refine cz_put377 (jj := 50) (by decide +kernel) (by decide +kernel) hIf13 (fun f14 ef14 hIf14 => ?_)
  refine pe_aload_n (j := 0) (by decide +kernel) rfl ?_
  refine pe_iconstv (n := 0) (v := 0) (by decide +kernel) (by decide +kernel) ?_
  refine cz_put378 (jj := 53) (by decide +kernel) (by decide +kernel) hIf14 (fun f15 ef15 hIf15 => ?_)
  refine pe_aload_n (j := 0) (by decide +kernel) rfl ?_
  refine pe_iconstv (n := (-1)) (v := (-1)) (by decide +kernel) (by decide +kernel) ?_
  refine cz_put379 (jj := 56) (by decide +kernel) (by decide +kernel) hIf15 (fun f16 ef16 hIf16 => ?_)
  refine pe_aload_n (j := 0) (by decide +kernel) rfl ?_
  refine pz_callV (j := 59) (mj := 23) (by decide +kernel) (cll_V (args := []) (n := 0) (by decide +kernel) rfl rfl cd_o23 (by decide +kernel) (Nat.le_of_ble_eq_true rfl) (Nat.le_of_ble_eq_true rfl)) (CM_23 hX hIf16 (upr_at eR9)) (fun q17a q17b q17c q17d hqq17 => ?_)
  obtain ⟨f18, eq17, hIq17, hGq17, kq17⟩ := hqq17
  cases eq17
  refine ⟨rfl, rfl, ?_⟩
  show pmE pg X pg_tyl pg_cl (d + 8) 18 53 [.ref 23, .ref 4, .int x2, .int 1, pm_dead] [] (cd f18 A7 R9 wr) _
  refine pe_iconstv (n := 0) (v := 0) (by decide +kernel) (by decide +kernel) ?_
  refine pe_istore (j := 4) (ls' := [.ref 23, .ref 4, .int x2, .int 1, .int 0]) (by decide +kernel) (Nat.le_of_ble_eq_true rfl) rfl ?_
  refine CL_18_1_56 hX (upr_at eR9) (by omega) (fun f19 A20 y21 hIy22 hGf19 hFA20 gy21 => ?_) (fun f23 A24 hIy25 hGf23 hFA24 => ⟨f23, A24, R9, rfl, hIy25, (fun k n372 n373 n374 n375 n376 n377 n378 n379 n384 n385 n386 n464 => ((hGf23 k n373 n374 n375 n376 n378 n379 n464)).trans (((hGq17 k n373 n374 n375 n376)).trans ((upf_fr ef16 n379).trans ((upf_fr ef15 n378).trans ((upf_fr ef14 n377).trans ((upf_fr ef13 n373).trans ((upf_fr ef12 n372).trans ((upf_fr ef8 n464).trans ((upf_fr ef3 n386).trans ((upf_fr ef2 n385).trans (upf_fr ef1 n384))))))))))), (fun k n25 n26 n27 n28 n30 n31 => ((hFA24 k n30 n31)).trans ((upa_fr eA7 n28).trans ((upa_fr eA6 n27).trans ((upa_fr eA5 n26).trans (upa_fr eA4 n25))))), (fun k n4 => upr_fr eR9 n4), trivial⟩) 602 f18 A7 0 hIq17 (fun k _ _ _ _ _ _ _ => rfl) (fun k _ _ => rfl) (by decide +kernel) (by decide +kernel)
  refine pe_iload_n (j := 3) (by decide +kernel) rfl ?_
  refine pz_if_ne (off := 26) (t := 127) (by decide +kernel) (by decide) rfl kz_1 (fun h26 => ?_) (fun h26 => by omega)
  exact pe_vret (by decide +kernel) rfl ⟨f19, A20, R9, rfl, hIy22, (fun k n372 n373 n374 n375 n376 n377 n378 n379 n384 n385 n386 n464 => ((hGf19 k n373 n374 n375 n376 n378 n379 n464)).trans (((hGq17 k n373 n374 n375 n376)).trans ((upf_fr ef16 n379).trans ((upf_fr ef15 n378).trans ((upf_fr ef14 n377).trans ((upf_fr ef13 n373).trans ((upf_fr ef12 n372).trans ((upf_fr ef8 n464).trans ((upf_fr ef3 n386).trans ((upf_fr ef2 n385).trans (upf_fr ef1 n384))))))))))), (fun k n25 n26 n27 n28 n30 n31 => ((hFA20 k n30 n31)).trans ((upa_fr eA7 n28).trans ((upa_fr eA6 n27).trans ((upa_fr eA5 n26).trans (upa_fr eA4 n25))))), (fun k n4 => upr_fr eR9 n4), trivial⟩
set_option maxRecDepth 100000 in
set_option maxHeartbeats 8000000 in
theorem CM_16 {X : pm_X} {d : Nat} {wr : pm_W} {f : Nat → Int32} {A : Nat → List Int32} {R : Nat → Value} {x1 x2 : Int32} (hX : XO X) (hI : CI f A R) : pmE pg X pg_tyl pg_cl (d + 9) 16 0 (pm_ent (pm_max pg 16) [.ref 0, .int x1, .int x2]) [] (cd f A R wr) (fun q => ∃ (f' : Nat → Int32) (A' : Nat → List Int32) (R' : Nat → Value) (r : Int32), q = (some (.int r), cd f' A' R' wr, 0, 0) ∧ CI f' A' R' ∧ (∀ k : Nat, k ≠ 18 → k ≠ 19 → k ≠ 21 → k ≠ 22 → k ≠ 23 → k ≠ 80 → k ≠ 81 → k ≠ 82 → k ≠ 160 → k ≠ 161 → k ≠ 162 → k ≠ 240 → k ≠ 272 → k ≠ 304 → k ≠ 372 → k ≠ 373 → k ≠ 374 → k ≠ 375 → k ≠ 376 → k ≠ 377 → k ≠ 378 → k ≠ 379 → k ≠ 384 → k ≠ 385 → k ≠ 386 → k ≠ 464 → f' k = f k) ∧ (∀ k : Nat, k ≠ 6 → k ≠ 7 → k ≠ 8 → k ≠ 9 → k ≠ 11 → k ≠ 12 → k ≠ 13 → k ≠ 14 → k ≠ 16 → k ≠ 18 → k ≠ 20 → k ≠ 25 → k ≠ 26 → k ≠ 27 → k ≠ 28 → k ≠ 30 → k ≠ 31 → A' k = A k) ∧ (∀ k : Nat, k ≠ 4 → R' k = R k) ∧ ((f' 21).toInt) ≤ 0 ∧ ((((-2) ≤ r.toInt ∧ r.toInt ≤ 2) ∧ True))) := by
  show pmE pg X pg_tyl pg_cl (d + 9) 16 0 [.ref 0, .int x1, .int x2, pm_dead, pm_dead] [] (cd f A R wr) _
  by_cases h1 : x1.toInt = 0
  · skip
    rw [show x1 = 0 from ti_eq (h1.trans kz_0.symm)]
    have hlk2 := kz_0
    refine pe_aload_n (j := 0) (by decide +kernel) rfl ?_
    refine pe_get (j := 12) (ci := 11) (n := 0) (by decide +kernel) (by decide +kernel) cd_o0 rfl ?_
    refine pe_get (j := 77) (ci := 8) (n := 5) (by decide +kernel) (by decide +kernel) cd_o1 rfl ?_
    have hr_f_21 := cf_21 hI
    refine pe_istore_n (j := 3) (ls' := [.ref 0, .int 0, .int x2, .int (f 21), pm_dead]) (by decide +kernel) (Nat.le_of_ble_eq_true rfl) rfl ?_
    refine pe_aload_n (j := 0) (by decide +kernel) rfl ?_
    refine pe_get (j := 12) (ci := 11) (n := 0) (by decide +kernel) (by decide +kernel) cd_o0 rfl ?_
    refine pe_iconstv (n := 0) (v := 0) (by decide +kernel) (by decide +kernel) ?_
    refine cz_put21 (jj := 77) (by decide +kernel) (by decide +kernel) hI (by decide +kernel) (by decide +kernel) (fun f3 ef3 hIf3 => ?_)
    refine pe_aload_n (j := 0) (by decide +kernel) rfl ?_
    refine pe_get (j := 12) (ci := 11) (n := 0) (by decide +kernel) (by decide +kernel) cd_o0 rfl ?_
    refine pe_iconstv (n := 0) (v := 0) (by decide +kernel) (by decide +kernel) ?_
    refine cz_put22 (jj := 85) (by decide +kernel) (by decide +kernel) hIf3 (fun f4 ef4 hIf4 => ?_)
    refine pe_aload_n (j := 0) (by decide +kernel) rfl ?_
    refine pe_get (j := 12) (ci := 11) (n := 0) (by decide +kernel) (by decide +kernel) cd_o0 rfl ?_
    refine pe_iconstv (n := (-1)) (v := (-1)) (by decide +kernel) (by decide +kernel) ?_
    refine cz_put23 (jj := 88) (by decide +kernel) (by decide +kernel) hIf4 (fun f5 ef5 hIf5 => ?_)
    refine pe_aload_n (j := 0) (by decide +kernel) rfl ?_
    refine pe_get (j := 12) (ci := 11) (n := 0) (by decide +kernel) (by decide +kernel) cd_o0 rfl ?_
    refine pe_iload_n (j := 1) (by decide +kernel) rfl ?_
    refine pe_iload_n (j := 2) (by decide +kernel) rfl ?_
    refine pi_V (j := 91) (mj := 17) (by decide +kernel) (cll_V (args := [.int x2, .int 0]) (n := 2) (by decide +kernel) rfl rfl cd_o1 (by decide +kernel) (Nat.le_of_ble_eq_true rfl) (Nat.le_of_ble_eq_true rfl)) ?_
    show pmE pg X pg_tyl pg_cl (d + 8) 17 0 [.ref 1, .int 0, .int x2, pm_dead, pm_dead] [] (cd f5 A R wr) _
    refine pe_iload_n (j := 1) (by decide +kernel) rfl ?_
    refine pz_if_eq (off := 10) (t := 11) (by decide +kernel) (by decide) rfl kz_0 (fun h6 => ?_) (fun h6 => by omega)
    refine pe_iload_n (j := 1) (by decide +kernel) rfl ?_
    refine pz_if_ne (off := 10) (t := 22) (by decide +kernel) (by decide) rfl kz_0 (fun h7 => by omega) (fun h7 => ?_)
    refine pe_aload_n (j := 0) (by decide +kernel) rfl ?_
    refine pe_get (j := 33) (ci := 8) (n := 2) (by decide +kernel) (by decide +kernel) cd_o1 rfl ?_
    have hr_f_18 := cf_18 hI
    refine pe_top (v := (f 18)) ((upf_fr ef5 (by decide)).trans ((upf_fr ef4 (by decide)).trans (upf_fr ef3 (by decide)))) ?_
    refine pe_goto (off := 7) (t := 26) (by decide +kernel) (by decide) rfl ?_
    refine pe_istore_n (j := 3) (ls' := [.ref 1, .int 0, .int x2, .int (f 18), pm_dead]) (by decide +kernel) (Nat.le_of_ble_eq_true rfl) rfl ?_
    refine pe_iload_n (j := 1) (by decide +kernel) rfl ?_
    refine pz_if_ne (off := 7) (t := 35) (by decide +kernel) (by decide) rfl kz_0 (fun h8 => by omega) (fun h8 => ?_)
    refine pe_iconstv (n := 2) (v := 2) (by decide +kernel) (by decide +kernel) ?_
    refine pe_goto (off := 4) (t := 36) (by decide +kernel) (by decide) rfl ?_
    refine pe_istore (j := 4) (ls' := [.ref 1, .int 0, .int x2, .int (f 18), .int 2]) (by decide +kernel) (Nat.le_of_ble_eq_true rfl) rfl ?_
    refine pe_iload_n (j := 2) (by decide +kernel) rfl ?_
    refine pe_iconstv (n := (-1)) (v := (-1)) (by decide +kernel) (by decide +kernel) ?_
    have lw10 := zi_lo x2
    have uw10 := zi_hi x2
    refine pz_icmp_ne (off := 15) (t := 55) (by decide +kernel) (by decide) rfl rfl kz_m1 (fun h9 => ?_) (fun h9 => ?_)
    · skip
      refine pe_iload_n (j := 2) (by decide +kernel) rfl ?_
      refine pz_if_lt (off := 12) (t := 68) (by decide +kernel) (by decide) rfl rfl (fun h11 => ?_) (fun h11 => ?_)
      · skip
        refine pe_iconstv (n := (-1)) (v := (-1)) (by decide +kernel) (by decide +kernel) ?_
        refine pe_iret (by decide +kernel) rfl rfl ⟨rfl, rfl, ?_⟩
        show pmE pg X pg_tyl pg_cl (d + 9) 16 41 [.ref 0, .int 0, .int x2, .int (f 21), pm_dead] [.int (-1)] (cd f5 A R wr) _
        refine pe_istore (j := 4) (ls' := [.ref 0, .int 0, .int x2, .int (f 21), .int (-1)]) (by decide +kernel) (Nat.le_of_ble_eq_true rfl) rfl ?_
        refine pe_iload (j := 4) (by decide +kernel) rfl ?_
        refine pe_iconstv (n := (-1)) (v := (-1)) (by decide +kernel) (by decide +kernel) ?_
        refine pz_icmp_ne (off := 6) (t := 52) (by decide +kernel) (by decide) rfl kz_m1 kz_m1 (fun h12 => by omega) (fun h12 => ?_)
        refine pe_bipushv (n := (-2)) (v := (-2)) (by decide +kernel) (by decide +kernel) ?_
        have hx13 : (f5 21).toInt = 0 := (congrArg Int32.toInt (show f5 21 = 0 from (upf_fr ef5 (by decide)).trans ((upf_fr ef4 (by decide)).trans (upf_at ef3)))).trans kz_0
        exact pe_iret (by decide +kernel) rfl rfl ⟨f5, A, R, (-2), rfl, hIf5, (fun k n18 n19 n21 n22 n23 n80 n81 n82 n160 n161 n162 n240 n272 n304 n372 n373 n374 n375 n376 n377 n378 n379 n384 n385 n386 n464 => (upf_fr ef5 n23).trans ((upf_fr ef4 n22).trans (upf_fr ef3 n21))), (fun k n6 n7 n8 n9 n11 n12 n13 n14 n16 n18 n20 n25 n26 n27 n28 n30 n31 => rfl), (fun k n4 => rfl), (by omega), ⟨(by decide +kernel), trivial⟩⟩
      · skip
        refine pe_iload_n (j := 2) (by decide +kernel) rfl ?_
        refine pe_iload_n (j := 3) (by decide +kernel) rfl ?_
        refine pz_icmp_ge (off := 7) (t := 68) (by decide +kernel) (by decide) rfl rfl rfl (fun h14 => ?_) (fun h14 => ?_)
        · skip
          refine pe_iconstv (n := (-1)) (v := (-1)) (by decide +kernel) (by decide +kernel) ?_
          refine pe_iret (by decide +kernel) rfl rfl ⟨rfl, rfl, ?_⟩
          show pmE pg X pg_tyl pg_cl (d + 9) 16 41 [.ref 0, .int 0, .int x2, .int (f 21), pm_dead] [.int (-1)] (cd f5 A R wr) _
          refine pe_istore (j := 4) (ls' := [.ref 0, .int 0, .int x2, .int (f 21), .int (-1)]) (by decide +kernel) (Nat.le_of_ble_eq_true rfl) rfl ?_
          refine pe_iload (j := 4) (by decide +kernel) rfl ?_
          refine pe_iconstv (n := (-1)) (v := (-1)) (by decide +kernel) (by decide +kernel) ?_
          refine pz_icmp_ne (off := 6) (t := 52) (by decide +kernel) (by decide) rfl kz_m1 kz_m1 (fun h15 => by omega) (fun h15 => ?_)
          refine pe_bipushv (n := (-2)) (v := (-2)) (by decide +kernel) (by decide +kernel) ?_
          have hx16 : (f5 21).toInt = 0 := (congrArg Int32.toInt (show f5 21 = 0 from (upf_fr ef5 (by decide)).trans ((upf_fr ef4 (by decide)).trans (upf_at ef3)))).trans kz_0
          exact pe_iret (by decide +kernel) rfl rfl ⟨f5, A, R, (-2), rfl, hIf5, (fun k n18 n19 n21 n22 n23 n80 n81 n82 n160 n161 n162 n240 n272 n304 n372 n373 n374 n375 n376 n377 n378 n379 n384 n385 n386 n464 => (upf_fr ef5 n23).trans ((upf_fr ef4 n22).trans (upf_fr ef3 n21))), (fun k n6 n7 n8 n9 n11 n12 n13 n14 n16 n18 n20 n25 n26 n27 n28 n30 n31 => rfl), (fun k n4 => rfl), (by omega), ⟨(by decide +kernel), trivial⟩⟩
        · skip
          refine pe_iload_n (j := 2) (by decide +kernel) rfl ?_
          refine pe_goto (off := 4) (t := 69) (by decide +kernel) (by decide) rfl ?_
          refine pe_iret (by decide +kernel) rfl rfl ⟨rfl, rfl, ?_⟩
          show pmE pg X pg_tyl pg_cl (d + 9) 16 41 [.ref 0, .int 0, .int x2, .int (f 21), pm_dead] [.int x2] (cd f5 A R wr) _
          refine pe_istore (j := 4) (ls' := [.ref 0, .int 0, .int x2, .int (f 21), .int x2]) (by decide +kernel) (Nat.le_of_ble_eq_true rfl) rfl ?_
          refine pe_iload (j := 4) (by decide +kernel) rfl ?_
          refine pe_iconstv (n := (-1)) (v := (-1)) (by decide +kernel) (by decide +kernel) ?_
          refine pz_icmp_ne (off := 6) (t := 52) (by decide +kernel) (by decide) rfl rfl kz_m1 (fun h17 => ?_) (fun h17 => by omega)
          refine pe_aload_n (j := 0) (by decide +kernel) rfl ?_
          refine pe_get (j := 27) (ci := 11) (n := 3) (by decide +kernel) (by decide +kernel) cd_o0 rfl ?_
          refine pe_aload_n (j := 0) (by decide +kernel) rfl ?_
          refine pe_get (j := 12) (ci := 11) (n := 0) (by decide +kernel) (by decide +kernel) cd_o0 rfl ?_
          refine pe_get (j := 95) (ci := 8) (n := 4) (by decide +kernel) (by decide +kernel) cd_o1 rfl ?_
          refine pe_iload_n (j := 3) (by decide +kernel) rfl ?_
          refine pe_iload_n (j := 1) (by decide +kernel) rfl ?_
          refine pz_callV (j := 99) (mj := 18) (by decide +kernel) (cll_V (args := [.int 0, .int (f 21), .ref 4]) (n := 3) (by decide +kernel) rfl rfl cd_o23 (by decide +kernel) (Nat.le_of_ble_eq_true rfl) (Nat.le_of_ble_eq_true rfl)) (CM_18 hX hIf5 (by omega)) (fun q18a q18b q18c q18d hqq18 => ?_)
          obtain ⟨f19, A20, R21, eq18, hIq18, hGq18, hFq18, hHq18, kq18⟩ := hqq18
          cases eq18
          refine ⟨rfl, rfl, ?_⟩
          show pmE pg X pg_tyl pg_cl (d + 9) 16 68 [.ref 0, .int 0, .int x2, .int (f 21), .int x2] [] (cd f19 A20 R21 wr) _
          refine pe_aload_n (j := 0) (by decide +kernel) rfl ?_
          refine pe_get (j := 27) (ci := 11) (n := 3) (by decide +kernel) (by decide +kernel) cd_o0 rfl ?_
          refine pe_get (j := 103) (ci := 4) (n := 10) (by decide +kernel) (by decide +kernel) cd_o23 rfl ?_
          have lw23 := zi_lo (f19 378)
          have uw23 := zi_hi (f19 378)
          refine pz_if_eq (off := 33) (t := 108) (by decide +kernel) (by decide) rfl rfl (fun h22 => ?_) (fun h22 => ?_)
          · skip
            refine pe_aload_n (j := 0) (by decide +kernel) rfl ?_
            refine pe_get (j := 12) (ci := 11) (n := 0) (by decide +kernel) (by decide +kernel) cd_o0 rfl ?_
            refine pe_iload_n (j := 1) (by decide +kernel) rfl ?_
            refine pe_iload (j := 4) (by decide +kernel) rfl ?_
            refine pe_aload_n (j := 0) (by decide +kernel) rfl ?_
            refine pe_get (j := 27) (ci := 11) (n := 3) (by decide +kernel) (by decide +kernel) cd_o0 rfl ?_
            refine pi_V (j := 107) (mj := 55) (by decide +kernel) (cll_V (args := [.ref 23, .int x2, .int 0]) (n := 3) (by decide +kernel) rfl rfl cd_o1 (by decide +kernel) (Nat.le_of_ble_eq_true rfl) (Nat.le_of_ble_eq_true rfl)) ?_
            show pmE pg X pg_tyl pg_cl (d + 8) 55 0 [.ref 1, .int 0, .int x2, .ref 23] [] (cd f19 A20 R21 wr) _
            refine pe_iload_n (j := 1) (by decide +kernel) rfl ?_
            refine pz_if_ne (off := 33) (t := 34) (by decide +kernel) (by decide) rfl kz_0 (fun h24 => by omega) (fun h24 => ?_)
            refine pe_aload_n (j := 0) (by decide +kernel) rfl ?_
            refine pe_get (j := 11) (ci := 8) (n := 0) (by decide +kernel) (by decide +kernel) cd_o1 rfl ?_
            refine pe_iload_n (j := 2) (by decide +kernel) rfl ?_
            by_cases h25 : x2.toInt = 0
            · skip
              refine pz_aald (q := 5) (t := 3) (n := 2) (i := 0) (C := "RingVillage$Village") (by decide +kernel) cd_q2 rfl rfl rfl (by omega) (by decide +kernel) rfl ?_
              refine pe_aload_n (j := 3) (by decide +kernel) rfl ?_
              refine pe_get (j := 58) (ci := 4) (n := 0) (by decide +kernel) (by decide +kernel) cd_o23 rfl ?_
              refine pi_V (j := 39) (mj := 56) (by decide +kernel) (cll_V (args := [.ref 24]) (n := 1) (by decide +kernel) rfl rfl cd_o5 (by decide +kernel) (Nat.le_of_ble_eq_true rfl) (Nat.le_of_ble_eq_true rfl)) ?_
              show pmE pg X pg_tyl pg_cl (d + 7) 56 0 [.ref 5, .ref 24] [] (cd f19 A20 R21 wr) _
              refine pe_aload_n (j := 0) (by decide +kernel) rfl ?_
              refine pe_aload_n (j := 1) (by decide +kernel) rfl ?_
              refine pe_get (j := 9) (ci := 9) (n := 0) (by decide +kernel) (by decide +kernel) cd_o24 rfl ?_
              have hr_f19_384 := cf_384 hIq18
              refine cz_put80 (jj := 9) (by decide +kernel) (by decide +kernel) hIq18 (by omega) (by omega) (fun f26 ef26 hIf26 => ?_)
              refine pe_aload_n (j := 0) (by decide +kernel) rfl ?_
              refine pe_aload_n (j := 1) (by decide +kernel) rfl ?_
              refine pe_get (j := 28) (ci := 9) (n := 1) (by decide +kernel) (by decide +kernel) cd_o24 rfl ?_
              refine pe_top (v := (f19 385)) (upf_fr ef26 (by decide)) ?_
              refine cz_put81 (jj := 28) (by decide +kernel) (by decide +kernel) hIf26 (fun f27 ef27 hIf27 => ?_)
              refine pe_aload_n (j := 0) (by decide +kernel) rfl ?_
              refine pe_aload_n (j := 1) (by decide +kernel) rfl ?_
              refine pe_get (j := 31) (ci := 9) (n := 2) (by decide +kernel) (by decide +kernel) cd_o24 rfl ?_
              have hr_f19_386 := cf_386 hIq18
              refine pe_top (v := (f19 386)) ((upf_fr ef27 (by decide)).trans (upf_fr ef26 (by decide))) ?_
              refine cz_put82 (jj := 31) (by decide +kernel) (by decide +kernel) hIf27 (by omega) (by omega) (fun f28 ef28 hIf28 => ?_)
              refine pe_aload_n (j := 1) (by decide +kernel) rfl ?_
              refine pe_get (j := 15) (ci := 9) (n := 3) (by decide +kernel) (by decide +kernel) cd_o24 rfl ?_
              refine pe_iconstv (n := 0) (v := 0) (by decide +kernel) (by decide +kernel) ?_
              refine pe_aload_n (j := 0) (by decide +kernel) rfl ?_
              refine pe_get (j := 15) (ci := 9) (n := 3) (by decide +kernel) (by decide +kernel) cd_o5 rfl ?_
              refine pe_iconstv (n := 0) (v := 0) (by decide +kernel) (by decide +kernel) ?_
              refine pe_bipushv (n := 81) (v := 81) (by decide +kernel) (by decide +kernel) ?_
              have hl29 := kz_81
              have hl30 := kz_0
              have hl31 := kz_0
              refine cz_copy (j := 40) (a := 0) (b := 0) (c := 81) (by decide +kernel) (by decide +kernel) (Nat.le_of_ble_eq_true rfl) cd_a25 cd_a6 (by decide +kernel) (fun _ => cd_s6) hIf28 (cl_25 hIf28) (cl_6 hIf28) kz_0 kz_0 kz_81 (by omega) (by omega) (by omega) (by omega) (by omega) (Or.inl rfl) (ct_no (by decide +kernel)) (fun A32 eA32 hIA32 => ?_)
              refine pe_aload_n (j := 1) (by decide +kernel) rfl ?_
              refine pe_get (j := 19) (ci := 9) (n := 4) (by decide +kernel) (by decide +kernel) cd_o24 rfl ?_
              refine pe_iconstv (n := 0) (v := 0) (by decide +kernel) (by decide +kernel) ?_
              refine pe_aload_n (j := 0) (by decide +kernel) rfl ?_
              refine pe_get (j := 19) (ci := 9) (n := 4) (by decide +kernel) (by decide +kernel) cd_o5 rfl ?_
              refine pe_iconstv (n := 0) (v := 0) (by decide +kernel) (by decide +kernel) ?_
              refine pe_bipushv (n := 9) (v := 9) (by decide +kernel) (by decide +kernel) ?_
              have hl33 := kz_9
              have hl34 := kz_0
              have hl35 := kz_0
              refine cz_copy (j := 40) (a := 0) (b := 0) (c := 9) (by decide +kernel) (by decide +kernel) (Nat.le_of_ble_eq_true rfl) cd_a26 cd_a7 (by decide +kernel) (fun _ => cd_s7) hIA32 (cl_26 hIA32) (cl_7 hIA32) kz_0 kz_0 kz_9 (by omega) (by omega) (by omega) (by omega) (by omega) (Or.inl rfl) (ct_no (by decide +kernel)) (fun A36 eA36 hIA36 => ?_)
              refine pe_aload_n (j := 1) (by decide +kernel) rfl ?_
              refine pe_get (j := 22) (ci := 9) (n := 5) (by decide +kernel) (by decide +kernel) cd_o24 rfl ?_
              refine pe_iconstv (n := 0) (v := 0) (by decide +kernel) (by decide +kernel) ?_
              refine pe_aload_n (j := 0) (by decide +kernel) rfl ?_
              refine pe_get (j := 22) (ci := 9) (n := 5) (by decide +kernel) (by decide +kernel) cd_o5 rfl ?_
              refine pe_iconstv (n := 0) (v := 0) (by decide +kernel) (by decide +kernel) ?_
              refine pe_bipushv (n := 9) (v := 9) (by decide +kernel) (by decide +kernel) ?_
              have hl37 := kz_9
              have hl38 := kz_0
              have hl39 := kz_0
              refine cz_copy (j := 40) (a := 0) (b := 0) (c := 9) (by decide +kernel) (by decide +kernel) (Nat.le_of_ble_eq_true rfl) cd_a27 cd_a8 (by decide +kernel) (fun _ => cd_s8) hIA36 (cl_27 hIA36) (cl_8 hIA36) kz_0 kz_0 kz_9 (by omega) (by omega) (by omega) (by omega) (by omega) (Or.inl rfl) (ct_no (by decide +kernel)) (fun A40 eA40 hIA40 => ?_)
              refine pe_aload_n (j := 1) (by decide +kernel) rfl ?_
              refine pe_get (j := 25) (ci := 9) (n := 6) (by decide +kernel) (by decide +kernel) cd_o24 rfl ?_
              refine pe_iconstv (n := 0) (v := 0) (by decide +kernel) (by decide +kernel) ?_
              refine pe_aload_n (j := 0) (by decide +kernel) rfl ?_
              refine pe_get (j := 25) (ci := 9) (n := 6) (by decide +kernel) (by decide +kernel) cd_o5 rfl ?_
              refine pe_iconstv (n := 0) (v := 0) (by decide +kernel) (by decide +kernel) ?_
              refine pe_bipushv (n := 28) (v := 28) (by decide +kernel) (by decide +kernel) ?_
              have hl41 := kz_28
              have hl42 := kz_0
              have hl43 := kz_0
              refine cz_copy (j := 40) (a := 0) (b := 0) (c := 28) (by decide +kernel) (by decide +kernel) (Nat.le_of_ble_eq_true rfl) cd_a28 cd_a9 (by decide +kernel) (fun _ => cd_s9) hIA40 (cl_28 hIA40) (cl_9 hIA40) kz_0 kz_0 kz_28 (by omega) (by omega) (by omega) (by omega) (by omega) (Or.inl rfl) (ct_one (kd := 0) (P := fun kd => ∀ i, i < (28 : Int).toNat → CT kd ((0 : Int).toNat + i) ((A40 28).getD ((0 : Int).toNat + i) 0).toInt) (by decide +kernel) (fun i _ => ct_28 hIA40 rfl)) (fun A44 eA44 hIA44 => ?_)
              refine pe_vret (by decide +kernel) rfl ⟨rfl, rfl, ?_⟩
              show pmE pg X pg_tyl pg_cl (d + 8) 55 17 [.ref 1, .int 0, .int x2, .ref 23] [] (cd f28 A44 R21 wr) _
              refine pe_aload_n (j := 0) (by decide +kernel) rfl ?_
              refine pe_aload_n (j := 0) (by decide +kernel) rfl ?_
              refine pe_get (j := 33) (ci := 8) (n := 2) (by decide +kernel) (by decide +kernel) cd_o1 rfl ?_
              refine pe_top (v := (f 18)) ((upf_fr ef28 (by decide)).trans ((upf_fr ef27 (by decide)).trans ((upf_fr ef26 (by decide)).trans (((hGq18 18 (by decide) (by decide) (by decide) (by decide) (by decide) (by decide) (by decide) (by decide) (by decide) (by decide) (by decide) (by decide))).trans ((upf_fr ef5 (by decide)).trans ((upf_fr ef4 (by decide)).trans (upf_fr ef3 (by decide)))))))) ?_
              refine pe_iload_n (j := 2) (by decide +kernel) rfl ?_
              refine pe_iconstv (n := 1) (v := 1) (by decide +kernel) (by decide +kernel) ?_
              refine pz_add (by decide +kernel) rfl kz_1 (by omega) (by omega) (fun z45 hz45 => ?_)
              refine pz_max (j := 64) (c := 2) (by decide +kernel) (by decide +kernel) (Nat.le_of_ble_eq_true rfl) rfl hz45 (by omega) (by omega) (fun z46 hz46 => ?_)
              refine cz_put18 (jj := 33) (by decide +kernel) (by decide +kernel) hIA44 (by omega) (by omega) (fun f47 ef47 hIf47 => ?_)
              refine pe_goto (off := 30) (t := 61) (by decide +kernel) (by decide) rfl ?_
              refine pe_vret (by decide +kernel) rfl ⟨rfl, rfl, ?_⟩
              show pmE pg X pg_tyl pg_cl (d + 9) 16 122 [.ref 0, .int 0, .int x2, .int (f 21), .int x2] [] (cd f47 A44 R21 wr) _
              refine pe_iload (j := 4) (by decide +kernel) rfl ?_
              have hx48 : (f47 21).toInt = 0 := (congrArg Int32.toInt (show f47 21 = 0 from (upf_fr ef47 (by decide)).trans ((upf_fr ef28 (by decide)).trans ((upf_fr ef27 (by decide)).trans ((upf_fr ef26 (by decide)).trans (((hGq18 21 (by decide) (by decide) (by decide) (by decide) (by decide) (by decide) (by decide) (by decide) (by decide) (by decide) (by decide) (by decide))).trans ((upf_fr ef5 (by decide)).trans ((upf_fr ef4 (by decide)).trans (upf_at ef3))))))))).trans kz_0
              exact pe_iret (by decide +kernel) rfl rfl ⟨f47, A44, R21, x2, rfl, hIf47, (fun k n18 n19 n21 n22 n23 n80 n81 n82 n160 n161 n162 n240 n272 n304 n372 n373 n374 n375 n376 n377 n378 n379 n384 n385 n386 n464 => (upf_fr ef47 n18).trans ((upf_fr ef28 n82).trans ((upf_fr ef27 n81).trans ((upf_fr ef26 n80).trans (((hGq18 k n372 n373 n374 n375 n376 n377 n378 n379 n384 n385 n386 n464)).trans ((upf_fr ef5 n23).trans ((upf_fr ef4 n22).trans (upf_fr ef3 n21)))))))), (fun k n6 n7 n8 n9 n11 n12 n13 n14 n16 n18 n20 n25 n26 n27 n28 n30 n31 => (upa_fr eA44 n9).trans ((upa_fr eA40 n8).trans ((upa_fr eA36 n7).trans ((upa_fr eA32 n6).trans ((hFq18 k n25 n26 n27 n28 n30 n31)))))), (fun k n4 => (hHq18 k n4)), (by omega), ⟨(by omega), trivial⟩⟩
            · skip
              refine pz_aald (q := 10) (t := 3) (n := 2) (i := 1) (C := "RingVillage$Village") (by decide +kernel) cd_q2 rfl rfl rfl (by omega) (by decide +kernel) rfl ?_
              refine pe_aload_n (j := 3) (by decide +kernel) rfl ?_
              refine pe_get (j := 58) (ci := 4) (n := 0) (by decide +kernel) (by decide +kernel) cd_o23 rfl ?_
              refine pi_V (j := 39) (mj := 56) (by decide +kernel) (cll_V (args := [.ref 24]) (n := 1) (by decide +kernel) rfl rfl cd_o10 (by decide +kernel) (Nat.le_of_ble_eq_true rfl) (Nat.le_of_ble_eq_true rfl)) ?_
              show pmE pg X pg_tyl pg_cl (d + 7) 56 0 [.ref 10, .ref 24] [] (cd f19 A20 R21 wr) _
              refine pe_aload_n (j := 0) (by decide +kernel) rfl ?_
              refine pe_aload_n (j := 1) (by decide +kernel) rfl ?_
              refine pe_get (j := 9) (ci := 9) (n := 0) (by decide +kernel) (by decide +kernel) cd_o24 rfl ?_
              have hr_f19_384 := cf_384 hIq18
              refine cz_put160 (jj := 9) (by decide +kernel) (by decide +kernel) hIq18 (by omega) (by omega) (fun f49 ef49 hIf49 => ?_)
              refine pe_aload_n (j := 0) (by decide +kernel) rfl ?_
              refine pe_aload_n (j := 1) (by decide +kernel) rfl ?_
              refine pe_get (j := 28) (ci := 9) (n := 1) (by decide +kernel) (by decide +kernel) cd_o24 rfl ?_
              refine pe_top (v := (f19 385)) (upf_fr ef49 (by decide)) ?_
              refine cz_put161 (jj := 28) (by decide +kernel) (by decide +kernel) hIf49 (fun f50 ef50 hIf50 => ?_)
              refine pe_aload_n (j := 0) (by decide +kernel) rfl ?_
              refine pe_aload_n (j := 1) (by decide +kernel) rfl ?_
              refine pe_get (j := 31) (ci := 9) (n := 2) (by decide +kernel) (by decide +kernel) cd_o24 rfl ?_
              have hr_f19_386 := cf_386 hIq18
              refine pe_top (v := (f19 386)) ((upf_fr ef50 (by decide)).trans (upf_fr ef49 (by decide))) ?_
              refine cz_put162 (jj := 31) (by decide +kernel) (by decide +kernel) hIf50 (by omega) (by omega) (fun f51 ef51 hIf51 => ?_)
              refine pe_aload_n (j := 1) (by decide +kernel) rfl ?_
              refine pe_get (j := 15) (ci := 9) (n := 3) (by decide +kernel) (by decide +kernel) cd_o24 rfl ?_
              refine pe_iconstv (n := 0) (v := 0) (by decide +kernel) (by decide +kernel) ?_
              refine pe_aload_n (j := 0) (by decide +kernel) rfl ?_
              refine pe_get (j := 15) (ci := 9) (n := 3) (by decide +kernel) (by decide +kernel) cd_o10 rfl ?_
              refine pe_iconstv (n := 0) (v := 0) (by decide +kernel) (by decide +kernel) ?_
              refine pe_bipushv (n := 81) (v := 81) (by decide +kernel) (by decide +kernel) ?_
              have hl52 := kz_81
              have hl53 := kz_0
              have hl54 := kz_0
              refine cz_copy (j := 40) (a := 0) (b := 0) (c := 81) (by decide +kernel) (by decide +kernel) (Nat.le_of_ble_eq_true rfl) cd_a25 cd_a11 (by decide +kernel) (fun _ => cd_s11) hIf51 (cl_25 hIf51) (cl_11 hIf51) kz_0 kz_0 kz_81 (by omega) (by omega) (by omega) (by omega) (by omega) (Or.inl rfl) (ct_no (by decide +kernel)) (fun A55 eA55 hIA55 => ?_)
              refine pe_aload_n (j := 1) (by decide +kernel) rfl ?_
              refine pe_get (j := 19) (ci := 9) (n := 4) (by decide +kernel) (by decide +kernel) cd_o24 rfl ?_
              refine pe_iconstv (n := 0) (v := 0) (by decide +kernel) (by decide +kernel) ?_
              refine pe_aload_n (j := 0) (by decide +kernel) rfl ?_
              refine pe_get (j := 19) (ci := 9) (n := 4) (by decide +kernel) (by decide +kernel) cd_o10 rfl ?_
              refine pe_iconstv (n := 0) (v := 0) (by decide +kernel) (by decide +kernel) ?_
              refine pe_bipushv (n := 9) (v := 9) (by decide +kernel) (by decide +kernel) ?_
              have hl56 := kz_9
              have hl57 := kz_0
              have hl58 := kz_0
              refine cz_copy (j := 40) (a := 0) (b := 0) (c := 9) (by decide +kernel) (by decide +kernel) (Nat.le_of_ble_eq_true rfl) cd_a26 cd_a12 (by decide +kernel) (fun _ => cd_s12) hIA55 (cl_26 hIA55) (cl_12 hIA55) kz_0 kz_0 kz_9 (by omega) (by omega) (by omega) (by omega) (by omega) (Or.inl rfl) (ct_no (by decide +kernel)) (fun A59 eA59 hIA59 => ?_)
              refine pe_aload_n (j := 1) (by decide +kernel) rfl ?_
              refine pe_get (j := 22) (ci := 9) (n := 5) (by decide +kernel) (by decide +kernel) cd_o24 rfl ?_
              refine pe_iconstv (n := 0) (v := 0) (by decide +kernel) (by decide +kernel) ?_
              refine pe_aload_n (j := 0) (by decide +kernel) rfl ?_
              refine pe_get (j := 22) (ci := 9) (n := 5) (by decide +kernel) (by decide +kernel) cd_o10 rfl ?_
              refine pe_iconstv (n := 0) (v := 0) (by decide +kernel) (by decide +kernel) ?_
              refine pe_bipushv (n := 9) (v := 9) (by decide +kernel) (by decide +kernel) ?_
              have hl60 := kz_9
              have hl61 := kz_0
              have hl62 := kz_0
              refine cz_copy (j := 40) (a := 0) (b := 0) (c := 9) (by decide +kernel) (by decide +kernel) (Nat.le_of_ble_eq_true rfl) cd_a27 cd_a13 (by decide +kernel) (fun _ => cd_s13) hIA59 (cl_27 hIA59) (cl_13 hIA59) kz_0 kz_0 kz_9 (by omega) (by omega) (by omega) (by omega) (by omega) (Or.inl rfl) (ct_no (by decide +kernel)) (fun A63 eA63 hIA63 => ?_)
              refine pe_aload_n (j := 1) (by decide +kernel) rfl ?_
              refine pe_get (j := 25) (ci := 9) (n := 6) (by decide +kernel) (by decide +kernel) cd_o24 rfl ?_
              refine pe_iconstv (n := 0) (v := 0) (by decide +kernel) (by decide +kernel) ?_
              refine pe_aload_n (j := 0) (by decide +kernel) rfl ?_
              refine pe_get (j := 25) (ci := 9) (n := 6) (by decide +kernel) (by decide +kernel) cd_o10 rfl ?_
              refine pe_iconstv (n := 0) (v := 0) (by decide +kernel) (by decide +kernel) ?_
              refine pe_bipushv (n := 28) (v := 28) (by decide +kernel) (by decide +kernel) ?_
              have hl64 := kz_28
              have hl65 := kz_0
              have hl66 := kz_0
              refine cz_copy (j := 40) (a := 0) (b := 0) (c := 28) (by decide +kernel) (by decide +kernel) (Nat.le_of_ble_eq_true rfl) cd_a28 cd_a14 (by decide +kernel) (fun _ => cd_s14) hIA63 (cl_28 hIA63) (cl_14 hIA63) kz_0 kz_0 kz_28 (by omega) (by omega) (by omega) (by omega) (by omega) (Or.inl rfl) (ct_one (kd := 0) (P := fun kd => ∀ i, i < (28 : Int).toNat → CT kd ((0 : Int).toNat + i) ((A63 28).getD ((0 : Int).toNat + i) 0).toInt) (by decide +kernel) (fun i _ => ct_28 hIA63 rfl)) (fun A67 eA67 hIA67 => ?_)
              refine pe_vret (by decide +kernel) rfl ⟨rfl, rfl, ?_⟩
              show pmE pg X pg_tyl pg_cl (d + 8) 55 17 [.ref 1, .int 0, .int x2, .ref 23] [] (cd f51 A67 R21 wr) _
              refine pe_aload_n (j := 0) (by decide +kernel) rfl ?_
              refine pe_aload_n (j := 0) (by decide +kernel) rfl ?_
              refine pe_get (j := 33) (ci := 8) (n := 2) (by decide +kernel) (by decide +kernel) cd_o1 rfl ?_
              refine pe_top (v := (f 18)) ((upf_fr ef51 (by decide)).trans ((upf_fr ef50 (by decide)).trans ((upf_fr ef49 (by decide)).trans (((hGq18 18 (by decide) (by decide) (by decide) (by decide) (by decide) (by decide) (by decide) (by decide) (by decide) (by decide) (by decide) (by decide))).trans ((upf_fr ef5 (by decide)).trans ((upf_fr ef4 (by decide)).trans (upf_fr ef3 (by decide)))))))) ?_
              refine pe_iload_n (j := 2) (by decide +kernel) rfl ?_
              refine pe_iconstv (n := 1) (v := 1) (by decide +kernel) (by decide +kernel) ?_
              refine pz_add (by decide +kernel) rfl kz_1 (by omega) (by omega) (fun z68 hz68 => ?_)
              refine pz_max (j := 64) (c := 2) (by decide +kernel) (by decide +kernel) (Nat.le_of_ble_eq_true rfl) rfl hz68 (by omega) (by omega) (fun z69 hz69 => ?_)
              refine cz_put18 (jj := 33) (by decide +kernel) (by decide +kernel) hIA67 (by omega) (by omega) (fun f70 ef70 hIf70 => ?_)
              refine pe_goto (off := 30) (t := 61) (by decide +kernel) (by decide) rfl ?_
              refine pe_vret (by decide +kernel) rfl ⟨rfl, rfl, ?_⟩
              show pmE pg X pg_tyl pg_cl (d + 9) 16 122 [.ref 0, .int 0, .int x2, .int (f 21), .int x2] [] (cd f70 A67 R21 wr) _
              refine pe_iload (j := 4) (by decide +kernel) rfl ?_
              have hx71 : (f70 21).toInt = 0 := (congrArg Int32.toInt (show f70 21 = 0 from (upf_fr ef70 (by decide)).trans ((upf_fr ef51 (by decide)).trans ((upf_fr ef50 (by decide)).trans ((upf_fr ef49 (by decide)).trans (((hGq18 21 (by decide) (by decide) (by decide) (by decide) (by decide) (by decide) (by decide) (by decide) (by decide) (by decide) (by decide) (by decide))).trans ((upf_fr ef5 (by decide)).trans ((upf_fr ef4 (by decide)).trans (upf_at ef3))))))))).trans kz_0
              exact pe_iret (by decide +kernel) rfl rfl ⟨f70, A67, R21, x2, rfl, hIf70, (fun k n18 n19 n21 n22 n23 n80 n81 n82 n160 n161 n162 n240 n272 n304 n372 n373 n374 n375 n376 n377 n378 n379 n384 n385 n386 n464 => (upf_fr ef70 n18).trans ((upf_fr ef51 n162).trans ((upf_fr ef50 n161).trans ((upf_fr ef49 n160).trans (((hGq18 k n372 n373 n374 n375 n376 n377 n378 n379 n384 n385 n386 n464)).trans ((upf_fr ef5 n23).trans ((upf_fr ef4 n22).trans (upf_fr ef3 n21)))))))), (fun k n6 n7 n8 n9 n11 n12 n13 n14 n16 n18 n20 n25 n26 n27 n28 n30 n31 => (upa_fr eA67 n14).trans ((upa_fr eA63 n13).trans ((upa_fr eA59 n12).trans ((upa_fr eA55 n11).trans ((hFq18 k n25 n26 n27 n28 n30 n31)))))), (fun k n4 => (hHq18 k n4)), (by omega), ⟨(by omega), trivial⟩⟩
          · skip
            refine pe_aload_n (j := 0) (by decide +kernel) rfl ?_
            refine pe_get (j := 12) (ci := 11) (n := 0) (by decide +kernel) (by decide +kernel) cd_o0 rfl ?_
            refine pe_aload_n (j := 0) (by decide +kernel) rfl ?_
            refine pe_get (j := 27) (ci := 11) (n := 3) (by decide +kernel) (by decide +kernel) cd_o0 rfl ?_
            refine pe_get (j := 103) (ci := 4) (n := 10) (by decide +kernel) (by decide +kernel) cd_o23 rfl ?_
            refine cz_put22 (jj := 85) (by decide +kernel) (by decide +kernel) hIq18 (fun f72 ef72 hIf72 => ?_)
            refine pe_aload_n (j := 0) (by decide +kernel) rfl ?_
            refine pe_get (j := 12) (ci := 11) (n := 0) (by decide +kernel) (by decide +kernel) cd_o0 rfl ?_
            refine pe_aload_n (j := 0) (by decide +kernel) rfl ?_
            refine pe_get (j := 27) (ci := 11) (n := 3) (by decide +kernel) (by decide +kernel) cd_o0 rfl ?_
            refine pe_get (j := 104) (ci := 4) (n := 11) (by decide +kernel) (by decide +kernel) cd_o23 rfl ?_
            refine pe_top (v := (f19 379)) (upf_fr ef72 (by decide)) ?_
            refine cz_put23 (jj := 88) (by decide +kernel) (by decide +kernel) hIf72 (fun f73 ef73 hIf73 => ?_)
            refine pe_iconstv (n := (-1)) (v := (-1)) (by decide +kernel) (by decide +kernel) ?_
            have hx74 : (f73 21).toInt = 0 := (congrArg Int32.toInt (show f73 21 = 0 from (upf_fr ef73 (by decide)).trans ((upf_fr ef72 (by decide)).trans (((hGq18 21 (by decide) (by decide) (by decide) (by decide) (by decide) (by decide) (by decide) (by decide) (by decide) (by decide) (by decide) (by decide))).trans ((upf_fr ef5 (by decide)).trans ((upf_fr ef4 (by decide)).trans (upf_at ef3))))))).trans kz_0
            exact pe_iret (by decide +kernel) rfl rfl ⟨f73, A20, R21, (-1), rfl, hIf73, (fun k n18 n19 n21 n22 n23 n80 n81 n82 n160 n161 n162 n240 n272 n304 n372 n373 n374 n375 n376 n377 n378 n379 n384 n385 n386 n464 => (upf_fr ef73 n23).trans ((upf_fr ef72 n22).trans (((hGq18 k n372 n373 n374 n375 n376 n377 n378 n379 n384 n385 n386 n464)).trans ((upf_fr ef5 n23).trans ((upf_fr ef4 n22).trans (upf_fr ef3 n21)))))), (fun k n6 n7 n8 n9 n11 n12 n13 n14 n16 n18 n20 n25 n26 n27 n28 n30 n31 => (hFq18 k n25 n26 n27 n28 n30 n31)), (fun k n4 => (hHq18 k n4)), (by omega), ⟨(by decide +kernel), trivial⟩⟩
    · skip
      refine pe_iload_n (j := 3) (by decide +kernel) rfl ?_
      refine pe_iload (j := 4) (by decide +kernel) rfl ?_
      refine pz_icmp_ge (off := 7) (t := 53) (by decide +kernel) (by decide) rfl rfl kz_2 (fun h75 => ?_) (fun h75 => ?_)
      · skip
        refine pe_iconstv (n := (-1)) (v := (-1)) (by decide +kernel) (by decide +kernel) ?_
        refine pe_iret (by decide +kernel) rfl rfl ⟨rfl, rfl, ?_⟩
        show pmE pg X pg_tyl pg_cl (d + 9) 16 41 [.ref 0, .int 0, .int x2, .int (f 21), pm_dead] [.int (-1)] (cd f5 A R wr) _
        refine pe_istore (j := 4) (ls' := [.ref 0, .int 0, .int x2, .int (f 21), .int (-1)]) (by decide +kernel) (Nat.le_of_ble_eq_true rfl) rfl ?_
        refine pe_iload (j := 4) (by decide +kernel) rfl ?_
        refine pe_iconstv (n := (-1)) (v := (-1)) (by decide +kernel) (by decide +kernel) ?_
        refine pz_icmp_ne (off := 6) (t := 52) (by decide +kernel) (by decide) rfl kz_m1 kz_m1 (fun h76 => by omega) (fun h76 => ?_)
        refine pe_bipushv (n := (-2)) (v := (-2)) (by decide +kernel) (by decide +kernel) ?_
        have hx77 : (f5 21).toInt = 0 := (congrArg Int32.toInt (show f5 21 = 0 from (upf_fr ef5 (by decide)).trans ((upf_fr ef4 (by decide)).trans (upf_at ef3)))).trans kz_0
        exact pe_iret (by decide +kernel) rfl rfl ⟨f5, A, R, (-2), rfl, hIf5, (fun k n18 n19 n21 n22 n23 n80 n81 n82 n160 n161 n162 n240 n272 n304 n372 n373 n374 n375 n376 n377 n378 n379 n384 n385 n386 n464 => (upf_fr ef5 n23).trans ((upf_fr ef4 n22).trans (upf_fr ef3 n21))), (fun k n6 n7 n8 n9 n11 n12 n13 n14 n16 n18 n20 n25 n26 n27 n28 n30 n31 => rfl), (fun k n4 => rfl), (by omega), ⟨(by decide +kernel), trivial⟩⟩
      · skip
        refine pe_iload_n (j := 3) (by decide +kernel) rfl ?_
        refine pe_goto (off := 4) (t := 54) (by decide +kernel) (by decide) rfl ?_
        refine pe_iret (by decide +kernel) rfl rfl ⟨rfl, rfl, ?_⟩
        show pmE pg X pg_tyl pg_cl (d + 9) 16 41 [.ref 0, .int 0, .int x2, .int (f 21), pm_dead] [.int (f 18)] (cd f5 A R wr) _
        refine pe_istore (j := 4) (ls' := [.ref 0, .int 0, .int x2, .int (f 21), .int (f 18)]) (by decide +kernel) (Nat.le_of_ble_eq_true rfl) rfl ?_
        refine pe_iload (j := 4) (by decide +kernel) rfl ?_
        refine pe_iconstv (n := (-1)) (v := (-1)) (by decide +kernel) (by decide +kernel) ?_
        refine pz_icmp_ne (off := 6) (t := 52) (by decide +kernel) (by decide) rfl rfl kz_m1 (fun h78 => ?_) (fun h78 => by omega)
        refine pe_aload_n (j := 0) (by decide +kernel) rfl ?_
        refine pe_get (j := 27) (ci := 11) (n := 3) (by decide +kernel) (by decide +kernel) cd_o0 rfl ?_
        refine pe_aload_n (j := 0) (by decide +kernel) rfl ?_
        refine pe_get (j := 12) (ci := 11) (n := 0) (by decide +kernel) (by decide +kernel) cd_o0 rfl ?_
        refine pe_get (j := 95) (ci := 8) (n := 4) (by decide +kernel) (by decide +kernel) cd_o1 rfl ?_
        refine pe_iload_n (j := 3) (by decide +kernel) rfl ?_
        refine pe_iload_n (j := 1) (by decide +kernel) rfl ?_
        refine pz_callV (j := 99) (mj := 18) (by decide +kernel) (cll_V (args := [.int 0, .int (f 21), .ref 4]) (n := 3) (by decide +kernel) rfl rfl cd_o23 (by decide +kernel) (Nat.le_of_ble_eq_true rfl) (Nat.le_of_ble_eq_true rfl)) (CM_18 hX hIf5 (by omega)) (fun q79a q79b q79c q79d hqq79 => ?_)
        obtain ⟨f80, A81, R82, eq79, hIq79, hGq79, hFq79, hHq79, kq79⟩ := hqq79
        cases eq79
        refine ⟨rfl, rfl, ?_⟩
        show pmE pg X pg_tyl pg_cl (d + 9) 16 68 [.ref 0, .int 0, .int x2, .int (f 21), .int (f 18)] [] (cd f80 A81 R82 wr) _
        refine pe_aload_n (j := 0) (by decide +kernel) rfl ?_
        refine pe_get (j := 27) (ci := 11) (n := 3) (by decide +kernel) (by decide +kernel) cd_o0 rfl ?_
        refine pe_get (j := 103) (ci := 4) (n := 10) (by decide +kernel) (by decide +kernel) cd_o23 rfl ?_
        have lw84 := zi_lo (f80 378)
        have uw84 := zi_hi (f80 378)
        refine pz_if_eq (off := 33) (t := 108) (by decide +kernel) (by decide) rfl rfl (fun h83 => ?_) (fun h83 => ?_)
        · skip
          refine pe_aload_n (j := 0) (by decide +kernel) rfl ?_
          refine pe_get (j := 12) (ci := 11) (n := 0) (by decide +kernel) (by decide +kernel) cd_o0 rfl ?_
          refine pe_iload_n (j := 1) (by decide +kernel) rfl ?_
          refine pe_iload (j := 4) (by decide +kernel) rfl ?_
          refine pe_aload_n (j := 0) (by decide +kernel) rfl ?_
          refine pe_get (j := 27) (ci := 11) (n := 3) (by decide +kernel) (by decide +kernel) cd_o0 rfl ?_
          refine pi_V (j := 107) (mj := 55) (by decide +kernel) (cll_V (args := [.ref 23, .int (f 18), .int 0]) (n := 3) (by decide +kernel) rfl rfl cd_o1 (by decide +kernel) (Nat.le_of_ble_eq_true rfl) (Nat.le_of_ble_eq_true rfl)) ?_
          show pmE pg X pg_tyl pg_cl (d + 8) 55 0 [.ref 1, .int 0, .int (f 18), .ref 23] [] (cd f80 A81 R82 wr) _
          refine pe_iload_n (j := 1) (by decide +kernel) rfl ?_
          refine pz_if_ne (off := 33) (t := 34) (by decide +kernel) (by decide) rfl kz_0 (fun h85 => by omega) (fun h85 => ?_)
          refine pe_aload_n (j := 0) (by decide +kernel) rfl ?_
          refine pe_get (j := 11) (ci := 8) (n := 0) (by decide +kernel) (by decide +kernel) cd_o1 rfl ?_
          refine pe_iload_n (j := 2) (by decide +kernel) rfl ?_
          by_cases h86 : (f 18).toInt = 0
          · skip
            refine pz_aald (q := 5) (t := 3) (n := 2) (i := 0) (C := "RingVillage$Village") (by decide +kernel) cd_q2 rfl rfl rfl (by omega) (by decide +kernel) rfl ?_
            refine pe_aload_n (j := 3) (by decide +kernel) rfl ?_
            refine pe_get (j := 58) (ci := 4) (n := 0) (by decide +kernel) (by decide +kernel) cd_o23 rfl ?_
            refine pi_V (j := 39) (mj := 56) (by decide +kernel) (cll_V (args := [.ref 24]) (n := 1) (by decide +kernel) rfl rfl cd_o5 (by decide +kernel) (Nat.le_of_ble_eq_true rfl) (Nat.le_of_ble_eq_true rfl)) ?_
            show pmE pg X pg_tyl pg_cl (d + 7) 56 0 [.ref 5, .ref 24] [] (cd f80 A81 R82 wr) _
            refine pe_aload_n (j := 0) (by decide +kernel) rfl ?_
            refine pe_aload_n (j := 1) (by decide +kernel) rfl ?_
            refine pe_get (j := 9) (ci := 9) (n := 0) (by decide +kernel) (by decide +kernel) cd_o24 rfl ?_
            have hr_f80_384 := cf_384 hIq79
            refine cz_put80 (jj := 9) (by decide +kernel) (by decide +kernel) hIq79 (by omega) (by omega) (fun f87 ef87 hIf87 => ?_)
            refine pe_aload_n (j := 0) (by decide +kernel) rfl ?_
            refine pe_aload_n (j := 1) (by decide +kernel) rfl ?_
            refine pe_get (j := 28) (ci := 9) (n := 1) (by decide +kernel) (by decide +kernel) cd_o24 rfl ?_
            refine pe_top (v := (f80 385)) (upf_fr ef87 (by decide)) ?_
            refine cz_put81 (jj := 28) (by decide +kernel) (by decide +kernel) hIf87 (fun f88 ef88 hIf88 => ?_)
            refine pe_aload_n (j := 0) (by decide +kernel) rfl ?_
            refine pe_aload_n (j := 1) (by decide +kernel) rfl ?_
            refine pe_get (j := 31) (ci := 9) (n := 2) (by decide +kernel) (by decide +kernel) cd_o24 rfl ?_
            have hr_f80_386 := cf_386 hIq79
            refine pe_top (v := (f80 386)) ((upf_fr ef88 (by decide)).trans (upf_fr ef87 (by decide))) ?_
            refine cz_put82 (jj := 31) (by decide +kernel) (by decide +kernel) hIf88 (by omega) (by omega) (fun f89 ef89 hIf89 => ?_)
            refine pe_aload_n (j := 1) (by decide +kernel) rfl ?_
            refine pe_get (j := 15) (ci := 9) (n := 3) (by decide +kernel) (by decide +kernel) cd_o24 rfl ?_
            refine pe_iconstv (n := 0) (v := 0) (by decide +kernel) (by decide +kernel) ?_
            refine pe_aload_n (j := 0) (by decide +kernel) rfl ?_
            refine pe_get (j := 15) (ci := 9) (n := 3) (by decide +kernel) (by decide +kernel) cd_o5 rfl ?_
            refine pe_iconstv (n := 0) (v := 0) (by decide +kernel) (by decide +kernel) ?_
            refine pe_bipushv (n := 81) (v := 81) (by decide +kernel) (by decide +kernel) ?_
            have hl90 := kz_81
            have hl91 := kz_0
            have hl92 := kz_0
            refine cz_copy (j := 40) (a := 0) (b := 0) (c := 81) (by decide +kernel) (by decide +kernel) (Nat.le_of_ble_eq_true rfl) cd_a25 cd_a6 (by decide +kernel) (fun _ => cd_s6) hIf89 (cl_25 hIf89) (cl_6 hIf89) kz_0 kz_0 kz_81 (by omega) (by omega) (by omega) (by omega) (by omega) (Or.inl rfl) (ct_no (by decide +kernel)) (fun A93 eA93 hIA93 => ?_)
            refine pe_aload_n (j := 1) (by decide +kernel) rfl ?_
            refine pe_get (j := 19) (ci := 9) (n := 4) (by decide +kernel) (by decide +kernel) cd_o24 rfl ?_
            refine pe_iconstv (n := 0) (v := 0) (by decide +kernel) (by decide +kernel) ?_
            refine pe_aload_n (j := 0) (by decide +kernel) rfl ?_
            refine pe_get (j := 19) (ci := 9) (n := 4) (by decide +kernel) (by decide +kernel) cd_o5 rfl ?_
            refine pe_iconstv (n := 0) (v := 0) (by decide +kernel) (by decide +kernel) ?_
            refine pe_bipushv (n := 9) (v := 9) (by decide +kernel) (by decide +kernel) ?_
            have hl94 := kz_9
            have hl95 := kz_0
            have hl96 := kz_0
            refine cz_copy (j := 40) (a := 0) (b := 0) (c := 9) (by decide +kernel) (by decide +kernel) (Nat.le_of_ble_eq_true rfl) cd_a26 cd_a7 (by decide +kernel) (fun _ => cd_s7) hIA93 (cl_26 hIA93) (cl_7 hIA93) kz_0 kz_0 kz_9 (by omega) (by omega) (by omega) (by omega) (by omega) (Or.inl rfl) (ct_no (by decide +kernel)) (fun A97 eA97 hIA97 => ?_)
            refine pe_aload_n (j := 1) (by decide +kernel) rfl ?_
            refine pe_get (j := 22) (ci := 9) (n := 5) (by decide +kernel) (by decide +kernel) cd_o24 rfl ?_
            refine pe_iconstv (n := 0) (v := 0) (by decide +kernel) (by decide +kernel) ?_
            refine pe_aload_n (j := 0) (by decide +kernel) rfl ?_
            refine pe_get (j := 22) (ci := 9) (n := 5) (by decide +kernel) (by decide +kernel) cd_o5 rfl ?_
            refine pe_iconstv (n := 0) (v := 0) (by decide +kernel) (by decide +kernel) ?_
            refine pe_bipushv (n := 9) (v := 9) (by decide +kernel) (by decide +kernel) ?_
            have hl98 := kz_9
            have hl99 := kz_0
            have hl100 := kz_0
            refine cz_copy (j := 40) (a := 0) (b := 0) (c := 9) (by decide +kernel) (by decide +kernel) (Nat.le_of_ble_eq_true rfl) cd_a27 cd_a8 (by decide +kernel) (fun _ => cd_s8) hIA97 (cl_27 hIA97) (cl_8 hIA97) kz_0 kz_0 kz_9 (by omega) (by omega) (by omega) (by omega) (by omega) (Or.inl rfl) (ct_no (by decide +kernel)) (fun A101 eA101 hIA101 => ?_)
            refine pe_aload_n (j := 1) (by decide +kernel) rfl ?_
            refine pe_get (j := 25) (ci := 9) (n := 6) (by decide +kernel) (by decide +kernel) cd_o24 rfl ?_
            refine pe_iconstv (n := 0) (v := 0) (by decide +kernel) (by decide +kernel) ?_
            refine pe_aload_n (j := 0) (by decide +kernel) rfl ?_
            refine pe_get (j := 25) (ci := 9) (n := 6) (by decide +kernel) (by decide +kernel) cd_o5 rfl ?_
            refine pe_iconstv (n := 0) (v := 0) (by decide +kernel) (by decide +kernel) ?_
            refine pe_bipushv (n := 28) (v := 28) (by decide +kernel) (by decide +kernel) ?_
            have hl102 := kz_28
            have hl103 := kz_0
            have hl104 := kz_0
            refine cz_copy (j := 40) (a := 0) (b := 0) (c := 28) (by decide +kernel) (by decide +kernel) (Nat.le_of_ble_eq_true rfl) cd_a28 cd_a9 (by decide +kernel) (fun _ => cd_s9) hIA101 (cl_28 hIA101) (cl_9 hIA101) kz_0 kz_0 kz_28 (by omega) (by omega) (by omega) (by omega) (by omega) (Or.inl rfl) (ct_one (kd := 0) (P := fun kd => ∀ i, i < (28 : Int).toNat → CT kd ((0 : Int).toNat + i) ((A101 28).getD ((0 : Int).toNat + i) 0).toInt) (by decide +kernel) (fun i _ => ct_28 hIA101 rfl)) (fun A105 eA105 hIA105 => ?_)
            refine pe_vret (by decide +kernel) rfl ⟨rfl, rfl, ?_⟩
            show pmE pg X pg_tyl pg_cl (d + 8) 55 17 [.ref 1, .int 0, .int (f 18), .ref 23] [] (cd f89 A105 R82 wr) _
            refine pe_aload_n (j := 0) (by decide +kernel) rfl ?_
            refine pe_aload_n (j := 0) (by decide +kernel) rfl ?_
            refine pe_get (j := 33) (ci := 8) (n := 2) (by decide +kernel) (by decide +kernel) cd_o1 rfl ?_
            refine pe_top (v := (f 18)) ((upf_fr ef89 (by decide)).trans ((upf_fr ef88 (by decide)).trans ((upf_fr ef87 (by decide)).trans (((hGq79 18 (by decide) (by decide) (by decide) (by decide) (by decide) (by decide) (by decide) (by decide) (by decide) (by decide) (by decide) (by decide))).trans ((upf_fr ef5 (by decide)).trans ((upf_fr ef4 (by decide)).trans (upf_fr ef3 (by decide)))))))) ?_
            refine pe_iload_n (j := 2) (by decide +kernel) rfl ?_
            refine pe_iconstv (n := 1) (v := 1) (by decide +kernel) (by decide +kernel) ?_
            refine pz_add (by decide +kernel) rfl kz_1 (by omega) (by omega) (fun z106 hz106 => ?_)
            refine pz_max (j := 64) (c := 1) (by decide +kernel) (by decide +kernel) (Nat.le_of_ble_eq_true rfl) rfl hz106 (by omega) (by omega) (fun z107 hz107 => ?_)
            refine cz_put18 (jj := 33) (by decide +kernel) (by decide +kernel) hIA105 (by omega) (by omega) (fun f108 ef108 hIf108 => ?_)
            refine pe_goto (off := 30) (t := 61) (by decide +kernel) (by decide) rfl ?_
            refine pe_vret (by decide +kernel) rfl ⟨rfl, rfl, ?_⟩
            show pmE pg X pg_tyl pg_cl (d + 9) 16 122 [.ref 0, .int 0, .int x2, .int (f 21), .int (f 18)] [] (cd f108 A105 R82 wr) _
            refine pe_iload (j := 4) (by decide +kernel) rfl ?_
            have hx109 : (f108 21).toInt = 0 := (congrArg Int32.toInt (show f108 21 = 0 from (upf_fr ef108 (by decide)).trans ((upf_fr ef89 (by decide)).trans ((upf_fr ef88 (by decide)).trans ((upf_fr ef87 (by decide)).trans (((hGq79 21 (by decide) (by decide) (by decide) (by decide) (by decide) (by decide) (by decide) (by decide) (by decide) (by decide) (by decide) (by decide))).trans ((upf_fr ef5 (by decide)).trans ((upf_fr ef4 (by decide)).trans (upf_at ef3))))))))).trans kz_0
            exact pe_iret (by decide +kernel) rfl rfl ⟨f108, A105, R82, (f 18), rfl, hIf108, (fun k n18 n19 n21 n22 n23 n80 n81 n82 n160 n161 n162 n240 n272 n304 n372 n373 n374 n375 n376 n377 n378 n379 n384 n385 n386 n464 => (upf_fr ef108 n18).trans ((upf_fr ef89 n82).trans ((upf_fr ef88 n81).trans ((upf_fr ef87 n80).trans (((hGq79 k n372 n373 n374 n375 n376 n377 n378 n379 n384 n385 n386 n464)).trans ((upf_fr ef5 n23).trans ((upf_fr ef4 n22).trans (upf_fr ef3 n21)))))))), (fun k n6 n7 n8 n9 n11 n12 n13 n14 n16 n18 n20 n25 n26 n27 n28 n30 n31 => (upa_fr eA105 n9).trans ((upa_fr eA101 n8).trans ((upa_fr eA97 n7).trans ((upa_fr eA93 n6).trans ((hFq79 k n25 n26 n27 n28 n30 n31)))))), (fun k n4 => (hHq79 k n4)), (by omega), ⟨(by omega), trivial⟩⟩
          · skip
            refine pz_aald (q := 10) (t := 3) (n := 2) (i := 1) (C := "RingVillage$Village") (by decide +kernel) cd_q2 rfl rfl rfl (by omega) (by decide +kernel) rfl ?_
            refine pe_aload_n (j := 3) (by decide +kernel) rfl ?_
            refine pe_get (j := 58) (ci := 4) (n := 0) (by decide +kernel) (by decide +kernel) cd_o23 rfl ?_
            refine pi_V (j := 39) (mj := 56) (by decide +kernel) (cll_V (args := [.ref 24]) (n := 1) (by decide +kernel) rfl rfl cd_o10 (by decide +kernel) (Nat.le_of_ble_eq_true rfl) (Nat.le_of_ble_eq_true rfl)) ?_
            show pmE pg X pg_tyl pg_cl (d + 7) 56 0 [.ref 10, .ref 24] [] (cd f80 A81 R82 wr) _
            refine pe_aload_n (j := 0) (by decide +kernel) rfl ?_
            refine pe_aload_n (j := 1) (by decide +kernel) rfl ?_
            refine pe_get (j := 9) (ci := 9) (n := 0) (by decide +kernel) (by decide +kernel) cd_o24 rfl ?_
            have hr_f80_384 := cf_384 hIq79
            refine cz_put160 (jj := 9) (by decide +kernel) (by decide +kernel) hIq79 (by omega) (by omega) (fun f110 ef110 hIf110 => ?_)
            refine pe_aload_n (j := 0) (by decide +kernel) rfl ?_
            refine pe_aload_n (j := 1) (by decide +kernel) rfl ?_
            refine pe_get (j := 28) (ci := 9) (n := 1) (by decide +kernel) (by decide +kernel) cd_o24 rfl ?_
            refine pe_top (v := (f80 385)) (upf_fr ef110 (by decide)) ?_
            refine cz_put161 (jj := 28) (by decide +kernel) (by decide +kernel) hIf110 (fun f111 ef111 hIf111 => ?_)
            refine pe_aload_n (j := 0) (by decide +kernel) rfl ?_
            refine pe_aload_n (j := 1) (by decide +kernel) rfl ?_
            refine pe_get (j := 31) (ci := 9) (n := 2) (by decide +kernel) (by decide +kernel) cd_o24 rfl ?_
            have hr_f80_386 := cf_386 hIq79
            refine pe_top (v := (f80 386)) ((upf_fr ef111 (by decide)).trans (upf_fr ef110 (by decide))) ?_
            refine cz_put162 (jj := 31) (by decide +kernel) (by decide +kernel) hIf111 (by omega) (by omega) (fun f112 ef112 hIf112 => ?_)
            refine pe_aload_n (j := 1) (by decide +kernel) rfl ?_
            refine pe_get (j := 15) (ci := 9) (n := 3) (by decide +kernel) (by decide +kernel) cd_o24 rfl ?_
            refine pe_iconstv (n := 0) (v := 0) (by decide +kernel) (by decide +kernel) ?_
            refine pe_aload_n (j := 0) (by decide +kernel) rfl ?_
            refine pe_get (j := 15) (ci := 9) (n := 3) (by decide +kernel) (by decide +kernel) cd_o10 rfl ?_
            refine pe_iconstv (n := 0) (v := 0) (by decide +kernel) (by decide +kernel) ?_
            refine pe_bipushv (n := 81) (v := 81) (by decide +kernel) (by decide +kernel) ?_
            have hl113 := kz_81
            have hl114 := kz_0
            have hl115 := kz_0
            refine cz_copy (j := 40) (a := 0) (b := 0) (c := 81) (by decide +kernel) (by decide +kernel) (Nat.le_of_ble_eq_true rfl) cd_a25 cd_a11 (by decide +kernel) (fun _ => cd_s11) hIf112 (cl_25 hIf112) (cl_11 hIf112) kz_0 kz_0 kz_81 (by omega) (by omega) (by omega) (by omega) (by omega) (Or.inl rfl) (ct_no (by decide +kernel)) (fun A116 eA116 hIA116 => ?_)
            refine pe_aload_n (j := 1) (by decide +kernel) rfl ?_
            refine pe_get (j := 19) (ci := 9) (n := 4) (by decide +kernel) (by decide +kernel) cd_o24 rfl ?_
            refine pe_iconstv (n := 0) (v := 0) (by decide +kernel) (by decide +kernel) ?_
            refine pe_aload_n (j := 0) (by decide +kernel) rfl ?_
            refine pe_get (j := 19) (ci := 9) (n := 4) (by decide +kernel) (by decide +kernel) cd_o10 rfl ?_
            refine pe_iconstv (n := 0) (v := 0) (by decide +kernel) (by decide +kernel) ?_
            refine pe_bipushv (n := 9) (v := 9) (by decide +kernel) (by decide +kernel) ?_
            have hl117 := kz_9
            have hl118 := kz_0
            have hl119 := kz_0
            refine cz_copy (j := 40) (a := 0) (b := 0) (c := 9) (by decide +kernel) (by decide +kernel) (Nat.le_of_ble_eq_true rfl) cd_a26 cd_a12 (by decide +kernel) (fun _ => cd_s12) hIA116 (cl_26 hIA116) (cl_12 hIA116) kz_0 kz_0 kz_9 (by omega) (by omega) (by omega) (by omega) (by omega) (Or.inl rfl) (ct_no (by decide +kernel)) (fun A120 eA120 hIA120 => ?_)
            refine pe_aload_n (j := 1) (by decide +kernel) rfl ?_
            refine pe_get (j := 22) (ci := 9) (n := 5) (by decide +kernel) (by decide +kernel) cd_o24 rfl ?_
            refine pe_iconstv (n := 0) (v := 0) (by decide +kernel) (by decide +kernel) ?_
            refine pe_aload_n (j := 0) (by decide +kernel) rfl ?_
            refine pe_get (j := 22) (ci := 9) (n := 5) (by decide +kernel) (by decide +kernel) cd_o10 rfl ?_
            refine pe_iconstv (n := 0) (v := 0) (by decide +kernel) (by decide +kernel) ?_
            refine pe_bipushv (n := 9) (v := 9) (by decide +kernel) (by decide +kernel) ?_
            have hl121 := kz_9
            have hl122 := kz_0
            have hl123 := kz_0
            refine cz_copy (j := 40) (a := 0) (b := 0) (c := 9) (by decide +kernel) (by decide +kernel) (Nat.le_of_ble_eq_true rfl) cd_a27 cd_a13 (by decide +kernel) (fun _ => cd_s13) hIA120 (cl_27 hIA120) (cl_13 hIA120) kz_0 kz_0 kz_9 (by omega) (by omega) (by omega) (by omega) (by omega) (Or.inl rfl) (ct_no (by decide +kernel)) (fun A124 eA124 hIA124 => ?_)
            refine pe_aload_n (j := 1) (by decide +kernel) rfl ?_
            refine pe_get (j := 25) (ci := 9) (n := 6) (by decide +kernel) (by decide +kernel) cd_o24 rfl ?_
            refine pe_iconstv (n := 0) (v := 0) (by decide +kernel) (by decide +kernel) ?_
            refine pe_aload_n (j := 0) (by decide +kernel) rfl ?_
            refine pe_get (j := 25) (ci := 9) (n := 6) (by decide +kernel) (by decide +kernel) cd_o10 rfl ?_
            refine pe_iconstv (n := 0) (v := 0) (by decide +kernel) (by decide +kernel) ?_
            refine pe_bipushv (n := 28) (v := 28) (by decide +kernel) (by decide +kernel) ?_
            have hl125 := kz_28
            have hl126 := kz_0
            have hl127 := kz_0
            refine cz_copy (j := 40) (a := 0) (b := 0) (c := 28) (by decide +kernel) (by decide +kernel) (Nat.le_of_ble_eq_true rfl) cd_a28 cd_a14 (by decide +kernel) (fun _ => cd_s14) hIA124 (cl_28 hIA124) (cl_14 hIA124) kz_0 kz_0 kz_28 (by omega) (by omega) (by omega) (by omega) (by omega) (Or.inl rfl) (ct_one (kd := 0) (P := fun kd => ∀ i, i < (28 : Int).toNat → CT kd ((0 : Int).toNat + i) ((A124 28).getD ((0 : Int).toNat + i) 0).toInt) (by decide +kernel) (fun i _ => ct_28 hIA124 rfl)) (fun A128 eA128 hIA128 => ?_)
            refine pe_vret (by decide +kernel) rfl ⟨rfl, rfl, ?_⟩
            show pmE pg X pg_tyl pg_cl (d + 8) 55 17 [.ref 1, .int 0, .int (f 18), .ref 23] [] (cd f112 A128 R82 wr) _
            refine pe_aload_n (j := 0) (by decide +kernel) rfl ?_
            refine pe_aload_n (j := 0) (by decide +kernel) rfl ?_
            refine pe_get (j := 33) (ci := 8) (n := 2) (by decide +kernel) (by decide +kernel) cd_o1 rfl ?_
            refine pe_top (v := (f 18)) ((upf_fr ef112 (by decide)).trans ((upf_fr ef111 (by decide)).trans ((upf_fr ef110 (by decide)).trans (((hGq79 18 (by decide) (by decide) (by decide) (by decide) (by decide) (by decide) (by decide) (by decide) (by decide) (by decide) (by decide) (by decide))).trans ((upf_fr ef5 (by decide)).trans ((upf_fr ef4 (by decide)).trans (upf_fr ef3 (by decide)))))))) ?_
            refine pe_iload_n (j := 2) (by decide +kernel) rfl ?_
            refine pe_iconstv (n := 1) (v := 1) (by decide +kernel) (by decide +kernel) ?_
            refine pz_add (by decide +kernel) rfl kz_1 (by omega) (by omega) (fun z129 hz129 => ?_)
            refine pz_max (j := 64) (c := 2) (by decide +kernel) (by decide +kernel) (Nat.le_of_ble_eq_true rfl) rfl hz129 (by omega) (by omega) (fun z130 hz130 => ?_)
            refine cz_put18 (jj := 33) (by decide +kernel) (by decide +kernel) hIA128 (by omega) (by omega) (fun f131 ef131 hIf131 => ?_)
            refine pe_goto (off := 30) (t := 61) (by decide +kernel) (by decide) rfl ?_
            refine pe_vret (by decide +kernel) rfl ⟨rfl, rfl, ?_⟩
            show pmE pg X pg_tyl pg_cl (d + 9) 16 122 [.ref 0, .int 0, .int x2, .int (f 21), .int (f 18)] [] (cd f131 A128 R82 wr) _
            refine pe_iload (j := 4) (by decide +kernel) rfl ?_
            have hx132 : (f131 21).toInt = 0 := (congrArg Int32.toInt (show f131 21 = 0 from (upf_fr ef131 (by decide)).trans ((upf_fr ef112 (by decide)).trans ((upf_fr ef111 (by decide)).trans ((upf_fr ef110 (by decide)).trans (((hGq79 21 (by decide) (by decide) (by decide) (by decide) (by decide) (by decide) (by decide) (by decide) (by decide) (by decide) (by decide) (by decide))).trans ((upf_fr ef5 (by decide)).trans ((upf_fr ef4 (by decide)).trans (upf_at ef3))))))))).trans kz_0
            exact pe_iret (by decide +kernel) rfl rfl ⟨f131, A128, R82, (f 18), rfl, hIf131, (fun k n18 n19 n21 n22 n23 n80 n81 n82 n160 n161 n162 n240 n272 n304 n372 n373 n374 n375 n376 n377 n378 n379 n384 n385 n386 n464 => (upf_fr ef131 n18).trans ((upf_fr ef112 n162).trans ((upf_fr ef111 n161).trans ((upf_fr ef110 n160).trans (((hGq79 k n372 n373 n374 n375 n376 n377 n378 n379 n384 n385 n386 n464)).trans ((upf_fr ef5 n23).trans ((upf_fr ef4 n22).trans (upf_fr ef3 n21)))))))), (fun k n6 n7 n8 n9 n11 n12 n13 n14 n16 n18 n20 n25 n26 n27 n28 n30 n31 => (upa_fr eA128 n14).trans ((upa_fr eA124 n13).trans ((upa_fr eA120 n12).trans ((upa_fr eA116 n11).trans ((hFq79 k n25 n26 n27 n28 n30 n31)))))), (fun k n4 => (hHq79 k n4)), (by omega), ⟨(by omega), trivial⟩⟩
        · skip
          refine pe_aload_n (j := 0) (by decide +kernel) rfl ?_
          refine pe_get (j := 12) (ci := 11) (n := 0) (by decide +kernel) (by decide +kernel) cd_o0 rfl ?_
          refine pe_aload_n (j := 0) (by decide +kernel) rfl ?_
          refine pe_get (j := 27) (ci := 11) (n := 3) (by decide +kernel) (by decide +kernel) cd_o0 rfl ?_
          refine pe_get (j := 103) (ci := 4) (n := 10) (by decide +kernel) (by decide +kernel) cd_o23 rfl ?_
          refine cz_put22 (jj := 85) (by decide +kernel) (by decide +kernel) hIq79 (fun f133 ef133 hIf133 => ?_)
          refine pe_aload_n (j := 0) (by decide +kernel) rfl ?_
          refine pe_get (j := 12) (ci := 11) (n := 0) (by decide +kernel) (by decide +kernel) cd_o0 rfl ?_
          refine pe_aload_n (j := 0) (by decide +kernel) rfl ?_
          refine pe_get (j := 27) (ci := 11) (n := 3) (by decide +kernel) (by decide +kernel) cd_o0 rfl ?_
          refine pe_get (j := 104) (ci := 4) (n := 11) (by decide +kernel) (by decide +kernel) cd_o23 rfl ?_
          refine pe_top (v := (f80 379)) (upf_fr ef133 (by decide)) ?_
          refine cz_put23 (jj := 88) (by decide +kernel) (by decide +kernel) hIf133 (fun f134 ef134 hIf134 => ?_)
          refine pe_iconstv (n := (-1)) (v := (-1)) (by decide +kernel) (by decide +kernel) ?_
          have hx135 : (f134 21).toInt = 0 := (congrArg Int32.toInt (show f134 21 = 0 from (upf_fr ef134 (by decide)).trans ((upf_fr ef133 (by decide)).trans (((hGq79 21 (by decide) (by decide) (by decide) (by decide) (by decide) (by decide) (by decide) (by decide) (by decide) (by decide) (by decide) (by decide))).trans ((upf_fr ef5 (by decide)).trans ((upf_fr ef4 (by decide)).trans (upf_at ef3))))))).trans kz_0
          exact pe_iret (by decide +kernel) rfl rfl ⟨f134, A81, R82, (-1), rfl, hIf134, (fun k n18 n19 n21 n22 n23 n80 n81 n82 n160 n161 n162 n240 n272 n304 n372 n373 n374 n375 n376 n377 n378 n379 n384 n385 n386 n464 => (upf_fr ef134 n23).trans ((upf_fr ef133 n22).trans (((hGq79 k n372 n373 n374 n375 n376 n377 n378 n379 n384 n385 n386 n464)).trans ((upf_fr ef5 n23).trans ((upf_fr ef4 n22).trans (upf_fr ef3 n21)))))), (fun k n6 n7 n8 n9 n11 n12 n13 n14 n16 n18 n20 n25 n26 n27 n28 n30 n31 => (hFq79 k n25 n26 n27 n28 n30 n31)), (fun k n4 => (hHq79 k n4)), (by omega), ⟨(by decide +kernel), trivial⟩⟩
  · skip
    by_cases h136 : x1.toInt = 1
    · skip
      rw [show x1 = 1 from ti_eq (h136.trans kz_1.symm)]
      have hlk137 := kz_1
      refine pe_aload_n (j := 0) (by decide +kernel) rfl ?_
      refine pe_get (j := 12) (ci := 11) (n := 0) (by decide +kernel) (by decide +kernel) cd_o0 rfl ?_
      refine pe_get (j := 77) (ci := 8) (n := 5) (by decide +kernel) (by decide +kernel) cd_o1 rfl ?_
      have hr_f_21 := cf_21 hI
      refine pe_istore_n (j := 3) (ls' := [.ref 0, .int 1, .int x2, .int (f 21), pm_dead]) (by decide +kernel) (Nat.le_of_ble_eq_true rfl) rfl ?_
      refine pe_aload_n (j := 0) (by decide +kernel) rfl ?_
      refine pe_get (j := 12) (ci := 11) (n := 0) (by decide +kernel) (by decide +kernel) cd_o0 rfl ?_
      refine pe_iconstv (n := 0) (v := 0) (by decide +kernel) (by decide +kernel) ?_
      refine cz_put21 (jj := 77) (by decide +kernel) (by decide +kernel) hI (by decide +kernel) (by decide +kernel) (fun f138 ef138 hIf138 => ?_)
      refine pe_aload_n (j := 0) (by decide +kernel) rfl ?_
      refine pe_get (j := 12) (ci := 11) (n := 0) (by decide +kernel) (by decide +kernel) cd_o0 rfl ?_
      refine pe_iconstv (n := 0) (v := 0) (by decide +kernel) (by decide +kernel) ?_
      refine cz_put22 (jj := 85) (by decide +kernel) (by decide +kernel) hIf138 (fun f139 ef139 hIf139 => ?_)
      refine pe_aload_n (j := 0) (by decide +kernel) rfl ?_
      refine pe_get (j := 12) (ci := 11) (n := 0) (by decide +kernel) (by decide +kernel) cd_o0 rfl ?_
      refine pe_iconstv (n := (-1)) (v := (-1)) (by decide +kernel) (by decide +kernel) ?_
      refine cz_put23 (jj := 88) (by decide +kernel) (by decide +kernel) hIf139 (fun f140 ef140 hIf140 => ?_)
      refine pe_aload_n (j := 0) (by decide +kernel) rfl ?_
      refine pe_get (j := 12) (ci := 11) (n := 0) (by decide +kernel) (by decide +kernel) cd_o0 rfl ?_
      refine pe_iload_n (j := 1) (by decide +kernel) rfl ?_
      refine pe_iload_n (j := 2) (by decide +kernel) rfl ?_
      refine pi_V (j := 91) (mj := 17) (by decide +kernel) (cll_V (args := [.int x2, .int 1]) (n := 2) (by decide +kernel) rfl rfl cd_o1 (by decide +kernel) (Nat.le_of_ble_eq_true rfl) (Nat.le_of_ble_eq_true rfl)) ?_
      show pmE pg X pg_tyl pg_cl (d + 8) 17 0 [.ref 1, .int 1, .int x2, pm_dead, pm_dead] [] (cd f140 A R wr) _
      refine pe_iload_n (j := 1) (by decide +kernel) rfl ?_
      refine pz_if_eq (off := 10) (t := 11) (by decide +kernel) (by decide) rfl kz_1 (fun h141 => by omega) (fun h141 => ?_)
      refine pe_iload_n (j := 1) (by decide +kernel) rfl ?_
      refine pe_iconstv (n := 1) (v := 1) (by decide +kernel) (by decide +kernel) ?_
      refine pz_icmp_eq (off := 5) (t := 11) (by decide +kernel) (by decide) rfl kz_1 kz_1 (fun h142 => ?_) (fun h142 => by omega)
      refine pe_iload_n (j := 1) (by decide +kernel) rfl ?_
      refine pz_if_ne (off := 10) (t := 22) (by decide +kernel) (by decide) rfl kz_1 (fun h143 => ?_) (fun h143 => by omega)
      refine pe_aload_n (j := 0) (by decide +kernel) rfl ?_
      refine pe_get (j := 36) (ci := 8) (n := 3) (by decide +kernel) (by decide +kernel) cd_o1 rfl ?_
      have hr_f_19 := cf_19 hI
      refine pe_top (v := (f 19)) ((upf_fr ef140 (by decide)).trans ((upf_fr ef139 (by decide)).trans (upf_fr ef138 (by decide)))) ?_
      refine pe_istore_n (j := 3) (ls' := [.ref 1, .int 1, .int x2, .int (f 19), pm_dead]) (by decide +kernel) (Nat.le_of_ble_eq_true rfl) rfl ?_
      refine pe_iload_n (j := 1) (by decide +kernel) rfl ?_
      refine pz_if_ne (off := 7) (t := 35) (by decide +kernel) (by decide) rfl kz_1 (fun h144 => ?_) (fun h144 => by omega)
      refine pe_iconstv (n := 3) (v := 3) (by decide +kernel) (by decide +kernel) ?_
      refine pe_istore (j := 4) (ls' := [.ref 1, .int 1, .int x2, .int (f 19), .int 3]) (by decide +kernel) (Nat.le_of_ble_eq_true rfl) rfl ?_
      refine pe_iload_n (j := 2) (by decide +kernel) rfl ?_
      refine pe_iconstv (n := (-1)) (v := (-1)) (by decide +kernel) (by decide +kernel) ?_
      have lw146 := zi_lo x2
      have uw146 := zi_hi x2
      refine pz_icmp_ne (off := 15) (t := 55) (by decide +kernel) (by decide) rfl rfl kz_m1 (fun h145 => ?_) (fun h145 => ?_)
      · skip
        refine pe_iload_n (j := 2) (by decide +kernel) rfl ?_
        refine pz_if_lt (off := 12) (t := 68) (by decide +kernel) (by decide) rfl rfl (fun h147 => ?_) (fun h147 => ?_)
        · skip
          refine pe_iconstv (n := (-1)) (v := (-1)) (by decide +kernel) (by decide +kernel) ?_
          refine pe_iret (by decide +kernel) rfl rfl ⟨rfl, rfl, ?_⟩
          show pmE pg X pg_tyl pg_cl (d + 9) 16 41 [.ref 0, .int 1, .int x2, .int (f 21), pm_dead] [.int (-1)] (cd f140 A R wr) _
          refine pe_istore (j := 4) (ls' := [.ref 0, .int 1, .int x2, .int (f 21), .int (-1)]) (by decide +kernel) (Nat.le_of_ble_eq_true rfl) rfl ?_
          refine pe_iload (j := 4) (by decide +kernel) rfl ?_
          refine pe_iconstv (n := (-1)) (v := (-1)) (by decide +kernel) (by decide +kernel) ?_
          refine pz_icmp_ne (off := 6) (t := 52) (by decide +kernel) (by decide) rfl kz_m1 kz_m1 (fun h148 => by omega) (fun h148 => ?_)
          refine pe_bipushv (n := (-2)) (v := (-2)) (by decide +kernel) (by decide +kernel) ?_
          have hx149 : (f140 21).toInt = 0 := (congrArg Int32.toInt (show f140 21 = 0 from (upf_fr ef140 (by decide)).trans ((upf_fr ef139 (by decide)).trans (upf_at ef138)))).trans kz_0
          exact pe_iret (by decide +kernel) rfl rfl ⟨f140, A, R, (-2), rfl, hIf140, (fun k n18 n19 n21 n22 n23 n80 n81 n82 n160 n161 n162 n240 n272 n304 n372 n373 n374 n375 n376 n377 n378 n379 n384 n385 n386 n464 => (upf_fr ef140 n23).trans ((upf_fr ef139 n22).trans (upf_fr ef138 n21))), (fun k n6 n7 n8 n9 n11 n12 n13 n14 n16 n18 n20 n25 n26 n27 n28 n30 n31 => rfl), (fun k n4 => rfl), (by omega), ⟨(by decide +kernel), trivial⟩⟩
        · skip
          refine pe_iload_n (j := 2) (by decide +kernel) rfl ?_
          refine pe_iload_n (j := 3) (by decide +kernel) rfl ?_
          refine pz_icmp_ge (off := 7) (t := 68) (by decide +kernel) (by decide) rfl rfl rfl (fun h150 => ?_) (fun h150 => ?_)
          · skip
            refine pe_iconstv (n := (-1)) (v := (-1)) (by decide +kernel) (by decide +kernel) ?_
            refine pe_iret (by decide +kernel) rfl rfl ⟨rfl, rfl, ?_⟩
            show pmE pg X pg_tyl pg_cl (d + 9) 16 41 [.ref 0, .int 1, .int x2, .int (f 21), pm_dead] [.int (-1)] (cd f140 A R wr) _
            refine pe_istore (j := 4) (ls' := [.ref 0, .int 1, .int x2, .int (f 21), .int (-1)]) (by decide +kernel) (Nat.le_of_ble_eq_true rfl) rfl ?_
            refine pe_iload (j := 4) (by decide +kernel) rfl ?_
            refine pe_iconstv (n := (-1)) (v := (-1)) (by decide +kernel) (by decide +kernel) ?_
            refine pz_icmp_ne (off := 6) (t := 52) (by decide +kernel) (by decide) rfl kz_m1 kz_m1 (fun h151 => by omega) (fun h151 => ?_)
            refine pe_bipushv (n := (-2)) (v := (-2)) (by decide +kernel) (by decide +kernel) ?_
            have hx152 : (f140 21).toInt = 0 := (congrArg Int32.toInt (show f140 21 = 0 from (upf_fr ef140 (by decide)).trans ((upf_fr ef139 (by decide)).trans (upf_at ef138)))).trans kz_0
            exact pe_iret (by decide +kernel) rfl rfl ⟨f140, A, R, (-2), rfl, hIf140, (fun k n18 n19 n21 n22 n23 n80 n81 n82 n160 n161 n162 n240 n272 n304 n372 n373 n374 n375 n376 n377 n378 n379 n384 n385 n386 n464 => (upf_fr ef140 n23).trans ((upf_fr ef139 n22).trans (upf_fr ef138 n21))), (fun k n6 n7 n8 n9 n11 n12 n13 n14 n16 n18 n20 n25 n26 n27 n28 n30 n31 => rfl), (fun k n4 => rfl), (by omega), ⟨(by decide +kernel), trivial⟩⟩
          · skip
            refine pe_iload_n (j := 2) (by decide +kernel) rfl ?_
            refine pe_goto (off := 4) (t := 69) (by decide +kernel) (by decide) rfl ?_
            refine pe_iret (by decide +kernel) rfl rfl ⟨rfl, rfl, ?_⟩
            show pmE pg X pg_tyl pg_cl (d + 9) 16 41 [.ref 0, .int 1, .int x2, .int (f 21), pm_dead] [.int x2] (cd f140 A R wr) _
            refine pe_istore (j := 4) (ls' := [.ref 0, .int 1, .int x2, .int (f 21), .int x2]) (by decide +kernel) (Nat.le_of_ble_eq_true rfl) rfl ?_
            refine pe_iload (j := 4) (by decide +kernel) rfl ?_
            refine pe_iconstv (n := (-1)) (v := (-1)) (by decide +kernel) (by decide +kernel) ?_
            refine pz_icmp_ne (off := 6) (t := 52) (by decide +kernel) (by decide) rfl rfl kz_m1 (fun h153 => ?_) (fun h153 => by omega)
            refine pe_aload_n (j := 0) (by decide +kernel) rfl ?_
            refine pe_get (j := 27) (ci := 11) (n := 3) (by decide +kernel) (by decide +kernel) cd_o0 rfl ?_
            refine pe_aload_n (j := 0) (by decide +kernel) rfl ?_
            refine pe_get (j := 12) (ci := 11) (n := 0) (by decide +kernel) (by decide +kernel) cd_o0 rfl ?_
            refine pe_get (j := 95) (ci := 8) (n := 4) (by decide +kernel) (by decide +kernel) cd_o1 rfl ?_
            refine pe_iload_n (j := 3) (by decide +kernel) rfl ?_
            refine pe_iload_n (j := 1) (by decide +kernel) rfl ?_
            refine pz_callV (j := 99) (mj := 18) (by decide +kernel) (cll_V (args := [.int 1, .int (f 21), .ref 4]) (n := 3) (by decide +kernel) rfl rfl cd_o23 (by decide +kernel) (Nat.le_of_ble_eq_true rfl) (Nat.le_of_ble_eq_true rfl)) (CM_18_1 hX hIf140 (by omega)) (fun q154a q154b q154c q154d hqq154 => ?_)
            obtain ⟨f155, A156, R157, eq154, hIq154, hGq154, hFq154, hHq154, kq154⟩ := hqq154
            cases eq154
            refine ⟨rfl, rfl, ?_⟩
            show pmE pg X pg_tyl pg_cl (d + 9) 16 68 [.ref 0, .int 1, .int x2, .int (f 21), .int x2] [] (cd f155 A156 R157 wr) _
            refine pe_aload_n (j := 0) (by decide +kernel) rfl ?_
            refine pe_get (j := 27) (ci := 11) (n := 3) (by decide +kernel) (by decide +kernel) cd_o0 rfl ?_
            refine pe_get (j := 103) (ci := 4) (n := 10) (by decide +kernel) (by decide +kernel) cd_o23 rfl ?_
            have lw159 := zi_lo (f155 378)
            have uw159 := zi_hi (f155 378)
            refine pz_if_eq (off := 33) (t := 108) (by decide +kernel) (by decide) rfl rfl (fun h158 => ?_) (fun h158 => ?_)
            · skip
              refine pe_aload_n (j := 0) (by decide +kernel) rfl ?_
              refine pe_get (j := 12) (ci := 11) (n := 0) (by decide +kernel) (by decide +kernel) cd_o0 rfl ?_
              refine pe_iload_n (j := 1) (by decide +kernel) rfl ?_
              refine pe_iload (j := 4) (by decide +kernel) rfl ?_
              refine pe_aload_n (j := 0) (by decide +kernel) rfl ?_
              refine pe_get (j := 27) (ci := 11) (n := 3) (by decide +kernel) (by decide +kernel) cd_o0 rfl ?_
              refine pi_V (j := 107) (mj := 55) (by decide +kernel) (cll_V (args := [.ref 23, .int x2, .int 1]) (n := 3) (by decide +kernel) rfl rfl cd_o1 (by decide +kernel) (Nat.le_of_ble_eq_true rfl) (Nat.le_of_ble_eq_true rfl)) ?_
              show pmE pg X pg_tyl pg_cl (d + 8) 55 0 [.ref 1, .int 1, .int x2, .ref 23] [] (cd f155 A156 R157 wr) _
              refine pe_iload_n (j := 1) (by decide +kernel) rfl ?_
              refine pz_if_ne (off := 33) (t := 34) (by decide +kernel) (by decide) rfl kz_1 (fun h160 => ?_) (fun h160 => by omega)
              refine pe_aload_n (j := 0) (by decide +kernel) rfl ?_
              refine pe_get (j := 19) (ci := 8) (n := 1) (by decide +kernel) (by decide +kernel) cd_o1 rfl ?_
              refine pe_iload_n (j := 2) (by decide +kernel) rfl ?_
              by_cases h161 : x2.toInt = 0
              · skip
                refine pz_aald (q := 15) (t := 4) (n := 3) (i := 0) (C := "RingVillage$Row") (by decide +kernel) cd_q3 rfl rfl rfl (by omega) (by decide +kernel) rfl ?_
                refine pe_aload_n (j := 3) (by decide +kernel) rfl ?_
                refine pe_get (j := 70) (ci := 4) (n := 1) (by decide +kernel) (by decide +kernel) cd_o23 rfl ?_
                refine pi_V (j := 43) (mj := 57) (by decide +kernel) (cll_V (args := [.ref 29]) (n := 1) (by decide +kernel) rfl rfl cd_o15 (by decide +kernel) (Nat.le_of_ble_eq_true rfl) (Nat.le_of_ble_eq_true rfl)) ?_
                show pmE pg X pg_tyl pg_cl (d + 7) 57 0 [.ref 15, .ref 29] [] (cd f155 A156 R157 wr) _
                refine pe_aload_n (j := 0) (by decide +kernel) rfl ?_
                refine pe_aload_n (j := 1) (by decide +kernel) rfl ?_
                refine pe_get (j := 15) (ci := 5) (n := 0) (by decide +kernel) (by decide +kernel) cd_o29 rfl ?_
                have hr_f155_464 := cf_464 hIq154
                refine cz_put240 (jj := 15) (by decide +kernel) (by decide +kernel) hIq154 (by omega) (by omega) (fun f162 ef162 hIf162 => ?_)
                refine pe_aload_n (j := 1) (by decide +kernel) rfl ?_
                refine pe_get (j := 9) (ci := 5) (n := 1) (by decide +kernel) (by decide +kernel) cd_o29 rfl ?_
                refine pe_iconstv (n := 0) (v := 0) (by decide +kernel) (by decide +kernel) ?_
                refine pe_aload_n (j := 0) (by decide +kernel) rfl ?_
                refine pe_get (j := 9) (ci := 5) (n := 1) (by decide +kernel) (by decide +kernel) cd_o15 rfl ?_
                refine pe_iconstv (n := 0) (v := 0) (by decide +kernel) (by decide +kernel) ?_
                refine pe_sipushv (n := 270) (v := 270) (by decide +kernel) (by decide +kernel) ?_
                have hl163 := kz_270
                have hl164 := kz_0
                have hl165 := kz_0
                refine cz_copy (j := 19) (a := 0) (b := 0) (c := 270) (by decide +kernel) (by decide +kernel) (Nat.le_of_ble_eq_true rfl) cd_a30 cd_a16 (by decide +kernel) (fun _ => cd_s16) hIf162 (cl_30 hIf162) (cl_16 hIf162) kz_0 kz_0 kz_270 (by omega) (by omega) (by omega) (by omega) (by omega) (Or.inl rfl) (ct_no (by decide +kernel)) (fun A166 eA166 hIA166 => ?_)
                refine pe_vret (by decide +kernel) rfl ⟨rfl, rfl, ?_⟩
                show pmE pg X pg_tyl pg_cl (d + 8) 55 47 [.ref 1, .int 1, .int x2, .ref 23] [] (cd f162 A166 R157 wr) _
                refine pe_aload_n (j := 0) (by decide +kernel) rfl ?_
                refine pe_aload_n (j := 0) (by decide +kernel) rfl ?_
                refine pe_get (j := 36) (ci := 8) (n := 3) (by decide +kernel) (by decide +kernel) cd_o1 rfl ?_
                refine pe_top (v := (f 19)) ((upf_fr ef162 (by decide)).trans (((hGq154 19 (by decide) (by decide) (by decide) (by decide) (by decide) (by decide) (by decide) (by decide) (by decide) (by decide) (by decide) (by decide))).trans ((upf_fr ef140 (by decide)).trans ((upf_fr ef139 (by decide)).trans (upf_fr ef138 (by decide)))))) ?_
                refine pe_iload_n (j := 2) (by decide +kernel) rfl ?_
                refine pe_iconstv (n := 1) (v := 1) (by decide +kernel) (by decide +kernel) ?_
                refine pz_add (by decide +kernel) rfl kz_1 (by omega) (by omega) (fun z167 hz167 => ?_)
                refine pz_max (j := 64) (c := 3) (by decide +kernel) (by decide +kernel) (Nat.le_of_ble_eq_true rfl) rfl hz167 (by omega) (by omega) (fun z168 hz168 => ?_)
                refine cz_put19 (jj := 36) (by decide +kernel) (by decide +kernel) hIA166 (by omega) (by omega) (fun f169 ef169 hIf169 => ?_)
                refine pe_vret (by decide +kernel) rfl ⟨rfl, rfl, ?_⟩
                show pmE pg X pg_tyl pg_cl (d + 9) 16 122 [.ref 0, .int 1, .int x2, .int (f 21), .int x2] [] (cd f169 A166 R157 wr) _
                refine pe_iload (j := 4) (by decide +kernel) rfl ?_
                have hx170 : (f169 21).toInt = 0 := (congrArg Int32.toInt (show f169 21 = 0 from (upf_fr ef169 (by decide)).trans ((upf_fr ef162 (by decide)).trans (((hGq154 21 (by decide) (by decide) (by decide) (by decide) (by decide) (by decide) (by decide) (by decide) (by decide) (by decide) (by decide) (by decide))).trans ((upf_fr ef140 (by decide)).trans ((upf_fr ef139 (by decide)).trans (upf_at ef138))))))).trans kz_0
                exact pe_iret (by decide +kernel) rfl rfl ⟨f169, A166, R157, x2, rfl, hIf169, (fun k n18 n19 n21 n22 n23 n80 n81 n82 n160 n161 n162 n240 n272 n304 n372 n373 n374 n375 n376 n377 n378 n379 n384 n385 n386 n464 => (upf_fr ef169 n19).trans ((upf_fr ef162 n240).trans (((hGq154 k n372 n373 n374 n375 n376 n377 n378 n379 n384 n385 n386 n464)).trans ((upf_fr ef140 n23).trans ((upf_fr ef139 n22).trans (upf_fr ef138 n21)))))), (fun k n6 n7 n8 n9 n11 n12 n13 n14 n16 n18 n20 n25 n26 n27 n28 n30 n31 => (upa_fr eA166 n16).trans ((hFq154 k n25 n26 n27 n28 n30 n31))), (fun k n4 => (hHq154 k n4)), (by omega), ⟨(by omega), trivial⟩⟩
              · skip
                by_cases h171 : x2.toInt = 1
                · skip
                  refine pz_aald (q := 17) (t := 4) (n := 3) (i := 1) (C := "RingVillage$Row") (by decide +kernel) cd_q3 rfl rfl rfl (by omega) (by decide +kernel) rfl ?_
                  refine pe_aload_n (j := 3) (by decide +kernel) rfl ?_
                  refine pe_get (j := 70) (ci := 4) (n := 1) (by decide +kernel) (by decide +kernel) cd_o23 rfl ?_
                  refine pi_V (j := 43) (mj := 57) (by decide +kernel) (cll_V (args := [.ref 29]) (n := 1) (by decide +kernel) rfl rfl cd_o17 (by decide +kernel) (Nat.le_of_ble_eq_true rfl) (Nat.le_of_ble_eq_true rfl)) ?_
                  show pmE pg X pg_tyl pg_cl (d + 7) 57 0 [.ref 17, .ref 29] [] (cd f155 A156 R157 wr) _
                  refine pe_aload_n (j := 0) (by decide +kernel) rfl ?_
                  refine pe_aload_n (j := 1) (by decide +kernel) rfl ?_
                  refine pe_get (j := 15) (ci := 5) (n := 0) (by decide +kernel) (by decide +kernel) cd_o29 rfl ?_
                  have hr_f155_464 := cf_464 hIq154
                  refine cz_put272 (jj := 15) (by decide +kernel) (by decide +kernel) hIq154 (by omega) (by omega) (fun f172 ef172 hIf172 => ?_)
                  refine pe_aload_n (j := 1) (by decide +kernel) rfl ?_
                  refine pe_get (j := 9) (ci := 5) (n := 1) (by decide +kernel) (by decide +kernel) cd_o29 rfl ?_
                  refine pe_iconstv (n := 0) (v := 0) (by decide +kernel) (by decide +kernel) ?_
                  refine pe_aload_n (j := 0) (by decide +kernel) rfl ?_
                  refine pe_get (j := 9) (ci := 5) (n := 1) (by decide +kernel) (by decide +kernel) cd_o17 rfl ?_
                  refine pe_iconstv (n := 0) (v := 0) (by decide +kernel) (by decide +kernel) ?_
                  refine pe_sipushv (n := 270) (v := 270) (by decide +kernel) (by decide +kernel) ?_
                  have hl173 := kz_270
                  have hl174 := kz_0
                  have hl175 := kz_0
                  refine cz_copy (j := 19) (a := 0) (b := 0) (c := 270) (by decide +kernel) (by decide +kernel) (Nat.le_of_ble_eq_true rfl) cd_a30 cd_a18 (by decide +kernel) (fun _ => cd_s18) hIf172 (cl_30 hIf172) (cl_18 hIf172) kz_0 kz_0 kz_270 (by omega) (by omega) (by omega) (by omega) (by omega) (Or.inl rfl) (ct_no (by decide +kernel)) (fun A176 eA176 hIA176 => ?_)
                  refine pe_vret (by decide +kernel) rfl ⟨rfl, rfl, ?_⟩
                  show pmE pg X pg_tyl pg_cl (d + 8) 55 47 [.ref 1, .int 1, .int x2, .ref 23] [] (cd f172 A176 R157 wr) _
                  refine pe_aload_n (j := 0) (by decide +kernel) rfl ?_
                  refine pe_aload_n (j := 0) (by decide +kernel) rfl ?_
                  refine pe_get (j := 36) (ci := 8) (n := 3) (by decide +kernel) (by decide +kernel) cd_o1 rfl ?_
                  refine pe_top (v := (f 19)) ((upf_fr ef172 (by decide)).trans (((hGq154 19 (by decide) (by decide) (by decide) (by decide) (by decide) (by decide) (by decide) (by decide) (by decide) (by decide) (by decide) (by decide))).trans ((upf_fr ef140 (by decide)).trans ((upf_fr ef139 (by decide)).trans (upf_fr ef138 (by decide)))))) ?_
                  refine pe_iload_n (j := 2) (by decide +kernel) rfl ?_
                  refine pe_iconstv (n := 1) (v := 1) (by decide +kernel) (by decide +kernel) ?_
                  refine pz_add (by decide +kernel) rfl kz_1 (by omega) (by omega) (fun z177 hz177 => ?_)
                  refine pz_max (j := 64) (c := 3) (by decide +kernel) (by decide +kernel) (Nat.le_of_ble_eq_true rfl) rfl hz177 (by omega) (by omega) (fun z178 hz178 => ?_)
                  refine cz_put19 (jj := 36) (by decide +kernel) (by decide +kernel) hIA176 (by omega) (by omega) (fun f179 ef179 hIf179 => ?_)
                  refine pe_vret (by decide +kernel) rfl ⟨rfl, rfl, ?_⟩
                  show pmE pg X pg_tyl pg_cl (d + 9) 16 122 [.ref 0, .int 1, .int x2, .int (f 21), .int x2] [] (cd f179 A176 R157 wr) _
                  refine pe_iload (j := 4) (by decide +kernel) rfl ?_
                  have hx180 : (f179 21).toInt = 0 := (congrArg Int32.toInt (show f179 21 = 0 from (upf_fr ef179 (by decide)).trans ((upf_fr ef172 (by decide)).trans (((hGq154 21 (by decide) (by decide) (by decide) (by decide) (by decide) (by decide) (by decide) (by decide) (by decide) (by decide) (by decide) (by decide))).trans ((upf_fr ef140 (by decide)).trans ((upf_fr ef139 (by decide)).trans (upf_at ef138))))))).trans kz_0
                  exact pe_iret (by decide +kernel) rfl rfl ⟨f179, A176, R157, x2, rfl, hIf179, (fun k n18 n19 n21 n22 n23 n80 n81 n82 n160 n161 n162 n240 n272 n304 n372 n373 n374 n375 n376 n377 n378 n379 n384 n385 n386 n464 => (upf_fr ef179 n19).trans ((upf_fr ef172 n272).trans (((hGq154 k n372 n373 n374 n375 n376 n377 n378 n379 n384 n385 n386 n464)).trans ((upf_fr ef140 n23).trans ((upf_fr ef139 n22).trans (upf_fr ef138 n21)))))), (fun k n6 n7 n8 n9 n11 n12 n13 n14 n16 n18 n20 n25 n26 n27 n28 n30 n31 => (upa_fr eA176 n18).trans ((hFq154 k n25 n26 n27 n28 n30 n31))), (fun k n4 => (hHq154 k n4)), (by omega), ⟨(by omega), trivial⟩⟩
                · skip
                  refine pz_aald (q := 19) (t := 4) (n := 3) (i := 2) (C := "RingVillage$Row") (by decide +kernel) cd_q3 rfl rfl rfl (by omega) (by decide +kernel) rfl ?_
                  refine pe_aload_n (j := 3) (by decide +kernel) rfl ?_
                  refine pe_get (j := 70) (ci := 4) (n := 1) (by decide +kernel) (by decide +kernel) cd_o23 rfl ?_
                  refine pi_V (j := 43) (mj := 57) (by decide +kernel) (cll_V (args := [.ref 29]) (n := 1) (by decide +kernel) rfl rfl cd_o19 (by decide +kernel) (Nat.le_of_ble_eq_true rfl) (Nat.le_of_ble_eq_true rfl)) ?_
                  show pmE pg X pg_tyl pg_cl (d + 7) 57 0 [.ref 19, .ref 29] [] (cd f155 A156 R157 wr) _
                  refine pe_aload_n (j := 0) (by decide +kernel) rfl ?_
                  refine pe_aload_n (j := 1) (by decide +kernel) rfl ?_
                  refine pe_get (j := 15) (ci := 5) (n := 0) (by decide +kernel) (by decide +kernel) cd_o29 rfl ?_
                  have hr_f155_464 := cf_464 hIq154
                  refine cz_put304 (jj := 15) (by decide +kernel) (by decide +kernel) hIq154 (by omega) (by omega) (fun f181 ef181 hIf181 => ?_)
                  refine pe_aload_n (j := 1) (by decide +kernel) rfl ?_
                  refine pe_get (j := 9) (ci := 5) (n := 1) (by decide +kernel) (by decide +kernel) cd_o29 rfl ?_
                  refine pe_iconstv (n := 0) (v := 0) (by decide +kernel) (by decide +kernel) ?_
                  refine pe_aload_n (j := 0) (by decide +kernel) rfl ?_
                  refine pe_get (j := 9) (ci := 5) (n := 1) (by decide +kernel) (by decide +kernel) cd_o19 rfl ?_
                  refine pe_iconstv (n := 0) (v := 0) (by decide +kernel) (by decide +kernel) ?_
                  refine pe_sipushv (n := 270) (v := 270) (by decide +kernel) (by decide +kernel) ?_
                  have hl182 := kz_270
                  have hl183 := kz_0
                  have hl184 := kz_0
                  refine cz_copy (j := 19) (a := 0) (b := 0) (c := 270) (by decide +kernel) (by decide +kernel) (Nat.le_of_ble_eq_true rfl) cd_a30 cd_a20 (by decide +kernel) (fun _ => cd_s20) hIf181 (cl_30 hIf181) (cl_20 hIf181) kz_0 kz_0 kz_270 (by omega) (by omega) (by omega) (by omega) (by omega) (Or.inl rfl) (ct_no (by decide +kernel)) (fun A185 eA185 hIA185 => ?_)
                  refine pe_vret (by decide +kernel) rfl ⟨rfl, rfl, ?_⟩
                  show pmE pg X pg_tyl pg_cl (d + 8) 55 47 [.ref 1, .int 1, .int x2, .ref 23] [] (cd f181 A185 R157 wr) _
                  refine pe_aload_n (j := 0) (by decide +kernel) rfl ?_
                  refine pe_aload_n (j := 0) (by decide +kernel) rfl ?_
                  refine pe_get (j := 36) (ci := 8) (n := 3) (by decide +kernel) (by decide +kernel) cd_o1 rfl ?_
                  refine pe_top (v := (f 19)) ((upf_fr ef181 (by decide)).trans (((hGq154 19 (by decide) (by decide) (by decide) (by decide) (by decide) (by decide) (by decide) (by decide) (by decide) (by decide) (by decide) (by decide))).trans ((upf_fr ef140 (by decide)).trans ((upf_fr ef139 (by decide)).trans (upf_fr ef138 (by decide)))))) ?_
                  refine pe_iload_n (j := 2) (by decide +kernel) rfl ?_
                  refine pe_iconstv (n := 1) (v := 1) (by decide +kernel) (by decide +kernel) ?_
                  refine pz_add (by decide +kernel) rfl kz_1 (by omega) (by omega) (fun z186 hz186 => ?_)
                  refine pz_max (j := 64) (c := 3) (by decide +kernel) (by decide +kernel) (Nat.le_of_ble_eq_true rfl) rfl hz186 (by omega) (by omega) (fun z187 hz187 => ?_)
                  refine cz_put19 (jj := 36) (by decide +kernel) (by decide +kernel) hIA185 (by omega) (by omega) (fun f188 ef188 hIf188 => ?_)
                  refine pe_vret (by decide +kernel) rfl ⟨rfl, rfl, ?_⟩
                  show pmE pg X pg_tyl pg_cl (d + 9) 16 122 [.ref 0, .int 1, .int x2, .int (f 21), .int x2] [] (cd f188 A185 R157 wr) _
                  refine pe_iload (j := 4) (by decide +kernel) rfl ?_
                  have hx189 : (f188 21).toInt = 0 := (congrArg Int32.toInt (show f188 21 = 0 from (upf_fr ef188 (by decide)).trans ((upf_fr ef181 (by decide)).trans (((hGq154 21 (by decide) (by decide) (by decide) (by decide) (by decide) (by decide) (by decide) (by decide) (by decide) (by decide) (by decide) (by decide))).trans ((upf_fr ef140 (by decide)).trans ((upf_fr ef139 (by decide)).trans (upf_at ef138))))))).trans kz_0
                  exact pe_iret (by decide +kernel) rfl rfl ⟨f188, A185, R157, x2, rfl, hIf188, (fun k n18 n19 n21 n22 n23 n80 n81 n82 n160 n161 n162 n240 n272 n304 n372 n373 n374 n375 n376 n377 n378 n379 n384 n385 n386 n464 => (upf_fr ef188 n19).trans ((upf_fr ef181 n304).trans (((hGq154 k n372 n373 n374 n375 n376 n377 n378 n379 n384 n385 n386 n464)).trans ((upf_fr ef140 n23).trans ((upf_fr ef139 n22).trans (upf_fr ef138 n21)))))), (fun k n6 n7 n8 n9 n11 n12 n13 n14 n16 n18 n20 n25 n26 n27 n28 n30 n31 => (upa_fr eA185 n20).trans ((hFq154 k n25 n26 n27 n28 n30 n31))), (fun k n4 => (hHq154 k n4)), (by omega), ⟨(by omega), trivial⟩⟩
            · skip
              refine pe_aload_n (j := 0) (by decide +kernel) rfl ?_
              refine pe_get (j := 12) (ci := 11) (n := 0) (by decide +kernel) (by decide +kernel) cd_o0 rfl ?_
              refine pe_aload_n (j := 0) (by decide +kernel) rfl ?_
              refine pe_get (j := 27) (ci := 11) (n := 3) (by decide +kernel) (by decide +kernel) cd_o0 rfl ?_
              refine pe_get (j := 103) (ci := 4) (n := 10) (by decide +kernel) (by decide +kernel) cd_o23 rfl ?_
              refine cz_put22 (jj := 85) (by decide +kernel) (by decide +kernel) hIq154 (fun f190 ef190 hIf190 => ?_)
              refine pe_aload_n (j := 0) (by decide +kernel) rfl ?_
              refine pe_get (j := 12) (ci := 11) (n := 0) (by decide +kernel) (by decide +kernel) cd_o0 rfl ?_
              refine pe_aload_n (j := 0) (by decide +kernel) rfl ?_
              refine pe_get (j := 27) (ci := 11) (n := 3) (by decide +kernel) (by decide +kernel) cd_o0 rfl ?_
              refine pe_get (j := 104) (ci := 4) (n := 11) (by decide +kernel) (by decide +kernel) cd_o23 rfl ?_
              refine pe_top (v := (f155 379)) (upf_fr ef190 (by decide)) ?_
              refine cz_put23 (jj := 88) (by decide +kernel) (by decide +kernel) hIf190 (fun f191 ef191 hIf191 => ?_)
              refine pe_iconstv (n := (-1)) (v := (-1)) (by decide +kernel) (by decide +kernel) ?_
              have hx192 : (f191 21).toInt = 0 := (congrArg Int32.toInt (show f191 21 = 0 from (upf_fr ef191 (by decide)).trans ((upf_fr ef190 (by decide)).trans (((hGq154 21 (by decide) (by decide) (by decide) (by decide) (by decide) (by decide) (by decide) (by decide) (by decide) (by decide) (by decide) (by decide))).trans ((upf_fr ef140 (by decide)).trans ((upf_fr ef139 (by decide)).trans (upf_at ef138))))))).trans kz_0
              exact pe_iret (by decide +kernel) rfl rfl ⟨f191, A156, R157, (-1), rfl, hIf191, (fun k n18 n19 n21 n22 n23 n80 n81 n82 n160 n161 n162 n240 n272 n304 n372 n373 n374 n375 n376 n377 n378 n379 n384 n385 n386 n464 => (upf_fr ef191 n23).trans ((upf_fr ef190 n22).trans (((hGq154 k n372 n373 n374 n375 n376 n377 n378 n379 n384 n385 n386 n464)).trans ((upf_fr ef140 n23).trans ((upf_fr ef139 n22).trans (upf_fr ef138 n21)))))), (fun k n6 n7 n8 n9 n11 n12 n13 n14 n16 n18 n20 n25 n26 n27 n28 n30 n31 => (hFq154 k n25 n26 n27 n28 n30 n31)), (fun k n4 => (hHq154 k n4)), (by omega), ⟨(by decide +kernel), trivial⟩⟩
      · skip
        refine pe_iload_n (j := 3) (by decide +kernel) rfl ?_
        refine pe_iload (j := 4) (by decide +kernel) rfl ?_
        refine pz_icmp_ge (off := 7) (t := 53) (by decide +kernel) (by decide) rfl rfl kz_3 (fun h193 => ?_) (fun h193 => ?_)
        · skip
          refine pe_iconstv (n := (-1)) (v := (-1)) (by decide +kernel) (by decide +kernel) ?_
          refine pe_iret (by decide +kernel) rfl rfl ⟨rfl, rfl, ?_⟩
          show pmE pg X pg_tyl pg_cl (d + 9) 16 41 [.ref 0, .int 1, .int x2, .int (f 21), pm_dead] [.int (-1)] (cd f140 A R wr) _
          refine pe_istore (j := 4) (ls' := [.ref 0, .int 1, .int x2, .int (f 21), .int (-1)]) (by decide +kernel) (Nat.le_of_ble_eq_true rfl) rfl ?_
          refine pe_iload (j := 4) (by decide +kernel) rfl ?_
          refine pe_iconstv (n := (-1)) (v := (-1)) (by decide +kernel) (by decide +kernel) ?_
          refine pz_icmp_ne (off := 6) (t := 52) (by decide +kernel) (by decide) rfl kz_m1 kz_m1 (fun h194 => by omega) (fun h194 => ?_)
          refine pe_bipushv (n := (-2)) (v := (-2)) (by decide +kernel) (by decide +kernel) ?_
          have hx195 : (f140 21).toInt = 0 := (congrArg Int32.toInt (show f140 21 = 0 from (upf_fr ef140 (by decide)).trans ((upf_fr ef139 (by decide)).trans (upf_at ef138)))).trans kz_0
          exact pe_iret (by decide +kernel) rfl rfl ⟨f140, A, R, (-2), rfl, hIf140, (fun k n18 n19 n21 n22 n23 n80 n81 n82 n160 n161 n162 n240 n272 n304 n372 n373 n374 n375 n376 n377 n378 n379 n384 n385 n386 n464 => (upf_fr ef140 n23).trans ((upf_fr ef139 n22).trans (upf_fr ef138 n21))), (fun k n6 n7 n8 n9 n11 n12 n13 n14 n16 n18 n20 n25 n26 n27 n28 n30 n31 => rfl), (fun k n4 => rfl), (by omega), ⟨(by decide +kernel), trivial⟩⟩
        · skip
          refine pe_iload_n (j := 3) (by decide +kernel) rfl ?_
          refine pe_goto (off := 4) (t := 54) (by decide +kernel) (by decide) rfl ?_
          refine pe_iret (by decide +kernel) rfl rfl ⟨rfl, rfl, ?_⟩
          show pmE pg X pg_tyl pg_cl (d + 9) 16 41 [.ref 0, .int 1, .int x2, .int (f 21), pm_dead] [.int (f 19)] (cd f140 A R wr) _
          refine pe_istore (j := 4) (ls' := [.ref 0, .int 1, .int x2, .int (f 21), .int (f 19)]) (by decide +kernel) (Nat.le_of_ble_eq_true rfl) rfl ?_
          refine pe_iload (j := 4) (by decide +kernel) rfl ?_
          refine pe_iconstv (n := (-1)) (v := (-1)) (by decide +kernel) (by decide +kernel) ?_
          refine pz_icmp_ne (off := 6) (t := 52) (by decide +kernel) (by decide) rfl rfl kz_m1 (fun h196 => ?_) (fun h196 => by omega)
          refine pe_aload_n (j := 0) (by decide +kernel) rfl ?_
          refine pe_get (j := 27) (ci := 11) (n := 3) (by decide +kernel) (by decide +kernel) cd_o0 rfl ?_
          refine pe_aload_n (j := 0) (by decide +kernel) rfl ?_
          refine pe_get (j := 12) (ci := 11) (n := 0) (by decide +kernel) (by decide +kernel) cd_o0 rfl ?_
          refine pe_get (j := 95) (ci := 8) (n := 4) (by decide +kernel) (by decide +kernel) cd_o1 rfl ?_
          refine pe_iload_n (j := 3) (by decide +kernel) rfl ?_
          refine pe_iload_n (j := 1) (by decide +kernel) rfl ?_
          refine pz_callV (j := 99) (mj := 18) (by decide +kernel) (cll_V (args := [.int 1, .int (f 21), .ref 4]) (n := 3) (by decide +kernel) rfl rfl cd_o23 (by decide +kernel) (Nat.le_of_ble_eq_true rfl) (Nat.le_of_ble_eq_true rfl)) (CM_18_1 hX hIf140 (by omega)) (fun q197a q197b q197c q197d hqq197 => ?_)
          obtain ⟨f198, A199, R200, eq197, hIq197, hGq197, hFq197, hHq197, kq197⟩ := hqq197
          cases eq197
          refine ⟨rfl, rfl, ?_⟩
          show pmE pg X pg_tyl pg_cl (d + 9) 16 68 [.ref 0, .int 1, .int x2, .int (f 21), .int (f 19)] [] (cd f198 A199 R200 wr) _
          refine pe_aload_n (j := 0) (by decide +kernel) rfl ?_
          refine pe_get (j := 27) (ci := 11) (n := 3) (by decide +kernel) (by decide +kernel) cd_o0 rfl ?_
          refine pe_get (j := 103) (ci := 4) (n := 10) (by decide +kernel) (by decide +kernel) cd_o23 rfl ?_
          have lw202 := zi_lo (f198 378)
          have uw202 := zi_hi (f198 378)
          refine pz_if_eq (off := 33) (t := 108) (by decide +kernel) (by decide) rfl rfl (fun h201 => ?_) (fun h201 => ?_)
          · skip
            refine pe_aload_n (j := 0) (by decide +kernel) rfl ?_
            refine pe_get (j := 12) (ci := 11) (n := 0) (by decide +kernel) (by decide +kernel) cd_o0 rfl ?_
            refine pe_iload_n (j := 1) (by decide +kernel) rfl ?_
            refine pe_iload (j := 4) (by decide +kernel) rfl ?_
            refine pe_aload_n (j := 0) (by decide +kernel) rfl ?_
            refine pe_get (j := 27) (ci := 11) (n := 3) (by decide +kernel) (by decide +kernel) cd_o0 rfl ?_
            refine pi_V (j := 107) (mj := 55) (by decide +kernel) (cll_V (args := [.ref 23, .int (f 19), .int 1]) (n := 3) (by decide +kernel) rfl rfl cd_o1 (by decide +kernel) (Nat.le_of_ble_eq_true rfl) (Nat.le_of_ble_eq_true rfl)) ?_
            show pmE pg X pg_tyl pg_cl (d + 8) 55 0 [.ref 1, .int 1, .int (f 19), .ref 23] [] (cd f198 A199 R200 wr) _
            refine pe_iload_n (j := 1) (by decide +kernel) rfl ?_
            refine pz_if_ne (off := 33) (t := 34) (by decide +kernel) (by decide) rfl kz_1 (fun h203 => ?_) (fun h203 => by omega)
            refine pe_aload_n (j := 0) (by decide +kernel) rfl ?_
            refine pe_get (j := 19) (ci := 8) (n := 1) (by decide +kernel) (by decide +kernel) cd_o1 rfl ?_
            refine pe_iload_n (j := 2) (by decide +kernel) rfl ?_
            by_cases h204 : (f 19).toInt = 0
            · skip
              refine pz_aald (q := 15) (t := 4) (n := 3) (i := 0) (C := "RingVillage$Row") (by decide +kernel) cd_q3 rfl rfl rfl (by omega) (by decide +kernel) rfl ?_
              refine pe_aload_n (j := 3) (by decide +kernel) rfl ?_
              refine pe_get (j := 70) (ci := 4) (n := 1) (by decide +kernel) (by decide +kernel) cd_o23 rfl ?_
              refine pi_V (j := 43) (mj := 57) (by decide +kernel) (cll_V (args := [.ref 29]) (n := 1) (by decide +kernel) rfl rfl cd_o15 (by decide +kernel) (Nat.le_of_ble_eq_true rfl) (Nat.le_of_ble_eq_true rfl)) ?_
              show pmE pg X pg_tyl pg_cl (d + 7) 57 0 [.ref 15, .ref 29] [] (cd f198 A199 R200 wr) _
              refine pe_aload_n (j := 0) (by decide +kernel) rfl ?_
              refine pe_aload_n (j := 1) (by decide +kernel) rfl ?_
              refine pe_get (j := 15) (ci := 5) (n := 0) (by decide +kernel) (by decide +kernel) cd_o29 rfl ?_
              have hr_f198_464 := cf_464 hIq197
              refine cz_put240 (jj := 15) (by decide +kernel) (by decide +kernel) hIq197 (by omega) (by omega) (fun f205 ef205 hIf205 => ?_)
              refine pe_aload_n (j := 1) (by decide +kernel) rfl ?_
              refine pe_get (j := 9) (ci := 5) (n := 1) (by decide +kernel) (by decide +kernel) cd_o29 rfl ?_
              refine pe_iconstv (n := 0) (v := 0) (by decide +kernel) (by decide +kernel) ?_
              refine pe_aload_n (j := 0) (by decide +kernel) rfl ?_
              refine pe_get (j := 9) (ci := 5) (n := 1) (by decide +kernel) (by decide +kernel) cd_o15 rfl ?_
              refine pe_iconstv (n := 0) (v := 0) (by decide +kernel) (by decide +kernel) ?_
              refine pe_sipushv (n := 270) (v := 270) (by decide +kernel) (by decide +kernel) ?_
              have hl206 := kz_270
              have hl207 := kz_0
              have hl208 := kz_0
              refine cz_copy (j := 19) (a := 0) (b := 0) (c := 270) (by decide +kernel) (by decide +kernel) (Nat.le_of_ble_eq_true rfl) cd_a30 cd_a16 (by decide +kernel) (fun _ => cd_s16) hIf205 (cl_30 hIf205) (cl_16 hIf205) kz_0 kz_0 kz_270 (by omega) (by omega) (by omega) (by omega) (by omega) (Or.inl rfl) (ct_no (by decide +kernel)) (fun A209 eA209 hIA209 => ?_)
              refine pe_vret (by decide +kernel) rfl ⟨rfl, rfl, ?_⟩
              show pmE pg X pg_tyl pg_cl (d + 8) 55 47 [.ref 1, .int 1, .int (f 19), .ref 23] [] (cd f205 A209 R200 wr) _
              refine pe_aload_n (j := 0) (by decide +kernel) rfl ?_
              refine pe_aload_n (j := 0) (by decide +kernel) rfl ?_
              refine pe_get (j := 36) (ci := 8) (n := 3) (by decide +kernel) (by decide +kernel) cd_o1 rfl ?_
              refine pe_top (v := (f 19)) ((upf_fr ef205 (by decide)).trans (((hGq197 19 (by decide) (by decide) (by decide) (by decide) (by decide) (by decide) (by decide) (by decide) (by decide) (by decide) (by decide) (by decide))).trans ((upf_fr ef140 (by decide)).trans ((upf_fr ef139 (by decide)).trans (upf_fr ef138 (by decide)))))) ?_
              refine pe_iload_n (j := 2) (by decide +kernel) rfl ?_
              refine pe_iconstv (n := 1) (v := 1) (by decide +kernel) (by decide +kernel) ?_
              refine pz_add (by decide +kernel) rfl kz_1 (by omega) (by omega) (fun z210 hz210 => ?_)
              refine pz_max (j := 64) (c := 1) (by decide +kernel) (by decide +kernel) (Nat.le_of_ble_eq_true rfl) rfl hz210 (by omega) (by omega) (fun z211 hz211 => ?_)
              refine cz_put19 (jj := 36) (by decide +kernel) (by decide +kernel) hIA209 (by omega) (by omega) (fun f212 ef212 hIf212 => ?_)
              refine pe_vret (by decide +kernel) rfl ⟨rfl, rfl, ?_⟩
              show pmE pg X pg_tyl pg_cl (d + 9) 16 122 [.ref 0, .int 1, .int x2, .int (f 21), .int (f 19)] [] (cd f212 A209 R200 wr) _
              refine pe_iload (j := 4) (by decide +kernel) rfl ?_
              have hx213 : (f212 21).toInt = 0 := (congrArg Int32.toInt (show f212 21 = 0 from (upf_fr ef212 (by decide)).trans ((upf_fr ef205 (by decide)).trans (((hGq197 21 (by decide) (by decide) (by decide) (by decide) (by decide) (by decide) (by decide) (by decide) (by decide) (by decide) (by decide) (by decide))).trans ((upf_fr ef140 (by decide)).trans ((upf_fr ef139 (by decide)).trans (upf_at ef138))))))).trans kz_0
              exact pe_iret (by decide +kernel) rfl rfl ⟨f212, A209, R200, (f 19), rfl, hIf212, (fun k n18 n19 n21 n22 n23 n80 n81 n82 n160 n161 n162 n240 n272 n304 n372 n373 n374 n375 n376 n377 n378 n379 n384 n385 n386 n464 => (upf_fr ef212 n19).trans ((upf_fr ef205 n240).trans (((hGq197 k n372 n373 n374 n375 n376 n377 n378 n379 n384 n385 n386 n464)).trans ((upf_fr ef140 n23).trans ((upf_fr ef139 n22).trans (upf_fr ef138 n21)))))), (fun k n6 n7 n8 n9 n11 n12 n13 n14 n16 n18 n20 n25 n26 n27 n28 n30 n31 => (upa_fr eA209 n16).trans ((hFq197 k n25 n26 n27 n28 n30 n31))), (fun k n4 => (hHq197 k n4)), (by omega), ⟨(by omega), trivial⟩⟩
            · skip
              by_cases h214 : (f 19).toInt = 1
              · skip
                refine pz_aald (q := 17) (t := 4) (n := 3) (i := 1) (C := "RingVillage$Row") (by decide +kernel) cd_q3 rfl rfl rfl (by omega) (by decide +kernel) rfl ?_
                refine pe_aload_n (j := 3) (by decide +kernel) rfl ?_
                refine pe_get (j := 70) (ci := 4) (n := 1) (by decide +kernel) (by decide +kernel) cd_o23 rfl ?_
                refine pi_V (j := 43) (mj := 57) (by decide +kernel) (cll_V (args := [.ref 29]) (n := 1) (by decide +kernel) rfl rfl cd_o17 (by decide +kernel) (Nat.le_of_ble_eq_true rfl) (Nat.le_of_ble_eq_true rfl)) ?_
                show pmE pg X pg_tyl pg_cl (d + 7) 57 0 [.ref 17, .ref 29] [] (cd f198 A199 R200 wr) _
                refine pe_aload_n (j := 0) (by decide +kernel) rfl ?_
                refine pe_aload_n (j := 1) (by decide +kernel) rfl ?_
                refine pe_get (j := 15) (ci := 5) (n := 0) (by decide +kernel) (by decide +kernel) cd_o29 rfl ?_
                have hr_f198_464 := cf_464 hIq197
                refine cz_put272 (jj := 15) (by decide +kernel) (by decide +kernel) hIq197 (by omega) (by omega) (fun f215 ef215 hIf215 => ?_)
                refine pe_aload_n (j := 1) (by decide +kernel) rfl ?_
                refine pe_get (j := 9) (ci := 5) (n := 1) (by decide +kernel) (by decide +kernel) cd_o29 rfl ?_
                refine pe_iconstv (n := 0) (v := 0) (by decide +kernel) (by decide +kernel) ?_
                refine pe_aload_n (j := 0) (by decide +kernel) rfl ?_
                refine pe_get (j := 9) (ci := 5) (n := 1) (by decide +kernel) (by decide +kernel) cd_o17 rfl ?_
                refine pe_iconstv (n := 0) (v := 0) (by decide +kernel) (by decide +kernel) ?_
                refine pe_sipushv (n := 270) (v := 270) (by decide +kernel) (by decide +kernel) ?_
                have hl216 := kz_270
                have hl217 := kz_0
                have hl218 := kz_0
                refine cz_copy (j := 19) (a := 0) (b := 0) (c := 270) (by decide +kernel) (by decide +kernel) (Nat.le_of_ble_eq_true rfl) cd_a30 cd_a18 (by decide +kernel) (fun _ => cd_s18) hIf215 (cl_30 hIf215) (cl_18 hIf215) kz_0 kz_0 kz_270 (by omega) (by omega) (by omega) (by omega) (by omega) (Or.inl rfl) (ct_no (by decide +kernel)) (fun A219 eA219 hIA219 => ?_)
                refine pe_vret (by decide +kernel) rfl ⟨rfl, rfl, ?_⟩
                show pmE pg X pg_tyl pg_cl (d + 8) 55 47 [.ref 1, .int 1, .int (f 19), .ref 23] [] (cd f215 A219 R200 wr) _
                refine pe_aload_n (j := 0) (by decide +kernel) rfl ?_
                refine pe_aload_n (j := 0) (by decide +kernel) rfl ?_
                refine pe_get (j := 36) (ci := 8) (n := 3) (by decide +kernel) (by decide +kernel) cd_o1 rfl ?_
                refine pe_top (v := (f 19)) ((upf_fr ef215 (by decide)).trans (((hGq197 19 (by decide) (by decide) (by decide) (by decide) (by decide) (by decide) (by decide) (by decide) (by decide) (by decide) (by decide) (by decide))).trans ((upf_fr ef140 (by decide)).trans ((upf_fr ef139 (by decide)).trans (upf_fr ef138 (by decide)))))) ?_
                refine pe_iload_n (j := 2) (by decide +kernel) rfl ?_
                refine pe_iconstv (n := 1) (v := 1) (by decide +kernel) (by decide +kernel) ?_
                refine pz_add (by decide +kernel) rfl kz_1 (by omega) (by omega) (fun z220 hz220 => ?_)
                refine pz_max (j := 64) (c := 2) (by decide +kernel) (by decide +kernel) (Nat.le_of_ble_eq_true rfl) rfl hz220 (by omega) (by omega) (fun z221 hz221 => ?_)
                refine cz_put19 (jj := 36) (by decide +kernel) (by decide +kernel) hIA219 (by omega) (by omega) (fun f222 ef222 hIf222 => ?_)
                refine pe_vret (by decide +kernel) rfl ⟨rfl, rfl, ?_⟩
                show pmE pg X pg_tyl pg_cl (d + 9) 16 122 [.ref 0, .int 1, .int x2, .int (f 21), .int (f 19)] [] (cd f222 A219 R200 wr) _
                refine pe_iload (j := 4) (by decide +kernel) rfl ?_
                have hx223 : (f222 21).toInt = 0 := (congrArg Int32.toInt (show f222 21 = 0 from (upf_fr ef222 (by decide)).trans ((upf_fr ef215 (by decide)).trans (((hGq197 21 (by decide) (by decide) (by decide) (by decide) (by decide) (by decide) (by decide) (by decide) (by decide) (by decide) (by decide) (by decide))).trans ((upf_fr ef140 (by decide)).trans ((upf_fr ef139 (by decide)).trans (upf_at ef138))))))).trans kz_0
                exact pe_iret (by decide +kernel) rfl rfl ⟨f222, A219, R200, (f 19), rfl, hIf222, (fun k n18 n19 n21 n22 n23 n80 n81 n82 n160 n161 n162 n240 n272 n304 n372 n373 n374 n375 n376 n377 n378 n379 n384 n385 n386 n464 => (upf_fr ef222 n19).trans ((upf_fr ef215 n272).trans (((hGq197 k n372 n373 n374 n375 n376 n377 n378 n379 n384 n385 n386 n464)).trans ((upf_fr ef140 n23).trans ((upf_fr ef139 n22).trans (upf_fr ef138 n21)))))), (fun k n6 n7 n8 n9 n11 n12 n13 n14 n16 n18 n20 n25 n26 n27 n28 n30 n31 => (upa_fr eA219 n18).trans ((hFq197 k n25 n26 n27 n28 n30 n31))), (fun k n4 => (hHq197 k n4)), (by omega), ⟨(by omega), trivial⟩⟩
              · skip
                refine pz_aald (q := 19) (t := 4) (n := 3) (i := 2) (C := "RingVillage$Row") (by decide +kernel) cd_q3 rfl rfl rfl (by omega) (by decide +kernel) rfl ?_
                refine pe_aload_n (j := 3) (by decide +kernel) rfl ?_
                refine pe_get (j := 70) (ci := 4) (n := 1) (by decide +kernel) (by decide +kernel) cd_o23 rfl ?_
                refine pi_V (j := 43) (mj := 57) (by decide +kernel) (cll_V (args := [.ref 29]) (n := 1) (by decide +kernel) rfl rfl cd_o19 (by decide +kernel) (Nat.le_of_ble_eq_true rfl) (Nat.le_of_ble_eq_true rfl)) ?_
                show pmE pg X pg_tyl pg_cl (d + 7) 57 0 [.ref 19, .ref 29] [] (cd f198 A199 R200 wr) _
                refine pe_aload_n (j := 0) (by decide +kernel) rfl ?_
                refine pe_aload_n (j := 1) (by decide +kernel) rfl ?_
                refine pe_get (j := 15) (ci := 5) (n := 0) (by decide +kernel) (by decide +kernel) cd_o29 rfl ?_
                have hr_f198_464 := cf_464 hIq197
                refine cz_put304 (jj := 15) (by decide +kernel) (by decide +kernel) hIq197 (by omega) (by omega) (fun f224 ef224 hIf224 => ?_)
                refine pe_aload_n (j := 1) (by decide +kernel) rfl ?_
                refine pe_get (j := 9) (ci := 5) (n := 1) (by decide +kernel) (by decide +kernel) cd_o29 rfl ?_
                refine pe_iconstv (n := 0) (v := 0) (by decide +kernel) (by decide +kernel) ?_
                refine pe_aload_n (j := 0) (by decide +kernel) rfl ?_
                refine pe_get (j := 9) (ci := 5) (n := 1) (by decide +kernel) (by decide +kernel) cd_o19 rfl ?_
                refine pe_iconstv (n := 0) (v := 0) (by decide +kernel) (by decide +kernel) ?_
                refine pe_sipushv (n := 270) (v := 270) (by decide +kernel) (by decide +kernel) ?_
                have hl225 := kz_270
                have hl226 := kz_0
                have hl227 := kz_0
                refine cz_copy (j := 19) (a := 0) (b := 0) (c := 270) (by decide +kernel) (by decide +kernel) (Nat.le_of_ble_eq_true rfl) cd_a30 cd_a20 (by decide +kernel) (fun _ => cd_s20) hIf224 (cl_30 hIf224) (cl_20 hIf224) kz_0 kz_0 kz_270 (by omega) (by omega) (by omega) (by omega) (by omega) (Or.inl rfl) (ct_no (by decide +kernel)) (fun A228 eA228 hIA228 => ?_)
                refine pe_vret (by decide +kernel) rfl ⟨rfl, rfl, ?_⟩
                show pmE pg X pg_tyl pg_cl (d + 8) 55 47 [.ref 1, .int 1, .int (f 19), .ref 23] [] (cd f224 A228 R200 wr) _
                refine pe_aload_n (j := 0) (by decide +kernel) rfl ?_
                refine pe_aload_n (j := 0) (by decide +kernel) rfl ?_
                refine pe_get (j := 36) (ci := 8) (n := 3) (by decide +kernel) (by decide +kernel) cd_o1 rfl ?_
                refine pe_top (v := (f 19)) ((upf_fr ef224 (by decide)).trans (((hGq197 19 (by decide) (by decide) (by decide) (by decide) (by decide) (by decide) (by decide) (by decide) (by decide) (by decide) (by decide) (by decide))).trans ((upf_fr ef140 (by decide)).trans ((upf_fr ef139 (by decide)).trans (upf_fr ef138 (by decide)))))) ?_
                refine pe_iload_n (j := 2) (by decide +kernel) rfl ?_
                refine pe_iconstv (n := 1) (v := 1) (by decide +kernel) (by decide +kernel) ?_
                refine pz_add (by decide +kernel) rfl kz_1 (by omega) (by omega) (fun z229 hz229 => ?_)
                refine pz_max (j := 64) (c := 3) (by decide +kernel) (by decide +kernel) (Nat.le_of_ble_eq_true rfl) rfl hz229 (by omega) (by omega) (fun z230 hz230 => ?_)
                refine cz_put19 (jj := 36) (by decide +kernel) (by decide +kernel) hIA228 (by omega) (by omega) (fun f231 ef231 hIf231 => ?_)
                refine pe_vret (by decide +kernel) rfl ⟨rfl, rfl, ?_⟩
                show pmE pg X pg_tyl pg_cl (d + 9) 16 122 [.ref 0, .int 1, .int x2, .int (f 21), .int (f 19)] [] (cd f231 A228 R200 wr) _
                refine pe_iload (j := 4) (by decide +kernel) rfl ?_
                have hx232 : (f231 21).toInt = 0 := (congrArg Int32.toInt (show f231 21 = 0 from (upf_fr ef231 (by decide)).trans ((upf_fr ef224 (by decide)).trans (((hGq197 21 (by decide) (by decide) (by decide) (by decide) (by decide) (by decide) (by decide) (by decide) (by decide) (by decide) (by decide) (by decide))).trans ((upf_fr ef140 (by decide)).trans ((upf_fr ef139 (by decide)).trans (upf_at ef138))))))).trans kz_0
                exact pe_iret (by decide +kernel) rfl rfl ⟨f231, A228, R200, (f 19), rfl, hIf231, (fun k n18 n19 n21 n22 n23 n80 n81 n82 n160 n161 n162 n240 n272 n304 n372 n373 n374 n375 n376 n377 n378 n379 n384 n385 n386 n464 => (upf_fr ef231 n19).trans ((upf_fr ef224 n304).trans (((hGq197 k n372 n373 n374 n375 n376 n377 n378 n379 n384 n385 n386 n464)).trans ((upf_fr ef140 n23).trans ((upf_fr ef139 n22).trans (upf_fr ef138 n21)))))), (fun k n6 n7 n8 n9 n11 n12 n13 n14 n16 n18 n20 n25 n26 n27 n28 n30 n31 => (upa_fr eA228 n20).trans ((hFq197 k n25 n26 n27 n28 n30 n31))), (fun k n4 => (hHq197 k n4)), (by omega), ⟨(by omega), trivial⟩⟩
          · skip
            refine pe_aload_n (j := 0) (by decide +kernel) rfl ?_
            refine pe_get (j := 12) (ci := 11) (n := 0) (by decide +kernel) (by decide +kernel) cd_o0 rfl ?_
            refine pe_aload_n (j := 0) (by decide +kernel) rfl ?_
            refine pe_get (j := 27) (ci := 11) (n := 3) (by decide +kernel) (by decide +kernel) cd_o0 rfl ?_
            refine pe_get (j := 103) (ci := 4) (n := 10) (by decide +kernel) (by decide +kernel) cd_o23 rfl ?_
            refine cz_put22 (jj := 85) (by decide +kernel) (by decide +kernel) hIq197 (fun f233 ef233 hIf233 => ?_)
            refine pe_aload_n (j := 0) (by decide +kernel) rfl ?_
            refine pe_get (j := 12) (ci := 11) (n := 0) (by decide +kernel) (by decide +kernel) cd_o0 rfl ?_
            refine pe_aload_n (j := 0) (by decide +kernel) rfl ?_
            refine pe_get (j := 27) (ci := 11) (n := 3) (by decide +kernel) (by decide +kernel) cd_o0 rfl ?_
            refine pe_get (j := 104) (ci := 4) (n := 11) (by decide +kernel) (by decide +kernel) cd_o23 rfl ?_
            refine pe_top (v := (f198 379)) (upf_fr ef233 (by decide)) ?_
            refine cz_put23 (jj := 88) (by decide +kernel) (by decide +kernel) hIf233 (fun f234 ef234 hIf234 => ?_)
            refine pe_iconstv (n := (-1)) (v := (-1)) (by decide +kernel) (by decide +kernel) ?_
            have hx235 : (f234 21).toInt = 0 := (congrArg Int32.toInt (show f234 21 = 0 from (upf_fr ef234 (by decide)).trans ((upf_fr ef233 (by decide)).trans (((hGq197 21 (by decide) (by decide) (by decide) (by decide) (by decide) (by decide) (by decide) (by decide) (by decide) (by decide) (by decide) (by decide))).trans ((upf_fr ef140 (by decide)).trans ((upf_fr ef139 (by decide)).trans (upf_at ef138))))))).trans kz_0
            exact pe_iret (by decide +kernel) rfl rfl ⟨f234, A199, R200, (-1), rfl, hIf234, (fun k n18 n19 n21 n22 n23 n80 n81 n82 n160 n161 n162 n240 n272 n304 n372 n373 n374 n375 n376 n377 n378 n379 n384 n385 n386 n464 => (upf_fr ef234 n23).trans ((upf_fr ef233 n22).trans (((hGq197 k n372 n373 n374 n375 n376 n377 n378 n379 n384 n385 n386 n464)).trans ((upf_fr ef140 n23).trans ((upf_fr ef139 n22).trans (upf_fr ef138 n21)))))), (fun k n6 n7 n8 n9 n11 n12 n13 n14 n16 n18 n20 n25 n26 n27 n28 n30 n31 => (hFq197 k n25 n26 n27 n28 n30 n31)), (fun k n4 => (hHq197 k n4)), (by omega), ⟨(by decide +kernel), trivial⟩⟩
    · skip
      refine pe_aload_n (j := 0) (by decide +kernel) rfl ?_
      refine pe_get (j := 12) (ci := 11) (n := 0) (by decide +kernel) (by decide +kernel) cd_o0 rfl ?_
      refine pe_get (j := 77) (ci := 8) (n := 5) (by decide +kernel) (by decide +kernel) cd_o1 rfl ?_
      have hr_f_21 := cf_21 hI
      refine pe_istore_n (j := 3) (ls' := [.ref 0, .int x1, .int x2, .int (f 21), pm_dead]) (by decide +kernel) (Nat.le_of_ble_eq_true rfl) rfl ?_
      refine pe_aload_n (j := 0) (by decide +kernel) rfl ?_
      refine pe_get (j := 12) (ci := 11) (n := 0) (by decide +kernel) (by decide +kernel) cd_o0 rfl ?_
      refine pe_iconstv (n := 0) (v := 0) (by decide +kernel) (by decide +kernel) ?_
      refine cz_put21 (jj := 77) (by decide +kernel) (by decide +kernel) hI (by decide +kernel) (by decide +kernel) (fun f236 ef236 hIf236 => ?_)
      refine pe_aload_n (j := 0) (by decide +kernel) rfl ?_
      refine pe_get (j := 12) (ci := 11) (n := 0) (by decide +kernel) (by decide +kernel) cd_o0 rfl ?_
      refine pe_iconstv (n := 0) (v := 0) (by decide +kernel) (by decide +kernel) ?_
      refine cz_put22 (jj := 85) (by decide +kernel) (by decide +kernel) hIf236 (fun f237 ef237 hIf237 => ?_)
      refine pe_aload_n (j := 0) (by decide +kernel) rfl ?_
      refine pe_get (j := 12) (ci := 11) (n := 0) (by decide +kernel) (by decide +kernel) cd_o0 rfl ?_
      refine pe_iconstv (n := (-1)) (v := (-1)) (by decide +kernel) (by decide +kernel) ?_
      refine cz_put23 (jj := 88) (by decide +kernel) (by decide +kernel) hIf237 (fun f238 ef238 hIf238 => ?_)
      refine pe_aload_n (j := 0) (by decide +kernel) rfl ?_
      refine pe_get (j := 12) (ci := 11) (n := 0) (by decide +kernel) (by decide +kernel) cd_o0 rfl ?_
      refine pe_iload_n (j := 1) (by decide +kernel) rfl ?_
      refine pe_iload_n (j := 2) (by decide +kernel) rfl ?_
      refine pi_V (j := 91) (mj := 17) (by decide +kernel) (cll_V (args := [.int x2, .int x1]) (n := 2) (by decide +kernel) rfl rfl cd_o1 (by decide +kernel) (Nat.le_of_ble_eq_true rfl) (Nat.le_of_ble_eq_true rfl)) ?_
      show pmE pg X pg_tyl pg_cl (d + 8) 17 0 [.ref 1, .int x1, .int x2, pm_dead, pm_dead] [] (cd f238 A R wr) _
      refine pe_iload_n (j := 1) (by decide +kernel) rfl ?_
      have lw240 := zi_lo x1
      have uw240 := zi_hi x1
      refine pz_if_eq (off := 10) (t := 11) (by decide +kernel) (by decide) rfl rfl (fun h239 => by omega) (fun h239 => ?_)
      refine pe_iload_n (j := 1) (by decide +kernel) rfl ?_
      refine pe_iconstv (n := 1) (v := 1) (by decide +kernel) (by decide +kernel) ?_
      refine pz_icmp_eq (off := 5) (t := 11) (by decide +kernel) (by decide) rfl rfl kz_1 (fun h241 => by omega) (fun h241 => ?_)
      refine pe_iconstv (n := (-1)) (v := (-1)) (by decide +kernel) (by decide +kernel) ?_
      refine pe_iret (by decide +kernel) rfl rfl ⟨rfl, rfl, ?_⟩
      show pmE pg X pg_tyl pg_cl (d + 9) 16 41 [.ref 0, .int x1, .int x2, .int (f 21), pm_dead] [.int (-1)] (cd f238 A R wr) _
      refine pe_istore (j := 4) (ls' := [.ref 0, .int x1, .int x2, .int (f 21), .int (-1)]) (by decide +kernel) (Nat.le_of_ble_eq_true rfl) rfl ?_
      refine pe_iload (j := 4) (by decide +kernel) rfl ?_
      refine pe_iconstv (n := (-1)) (v := (-1)) (by decide +kernel) (by decide +kernel) ?_
      refine pz_icmp_ne (off := 6) (t := 52) (by decide +kernel) (by decide) rfl kz_m1 kz_m1 (fun h242 => by omega) (fun h242 => ?_)
      refine pe_bipushv (n := (-2)) (v := (-2)) (by decide +kernel) (by decide +kernel) ?_
      have hx243 : (f238 21).toInt = 0 := (congrArg Int32.toInt (show f238 21 = 0 from (upf_fr ef238 (by decide)).trans ((upf_fr ef237 (by decide)).trans (upf_at ef236)))).trans kz_0
      exact pe_iret (by decide +kernel) rfl rfl ⟨f238, A, R, (-2), rfl, hIf238, (fun k n18 n19 n21 n22 n23 n80 n81 n82 n160 n161 n162 n240 n272 n304 n372 n373 n374 n375 n376 n377 n378 n379 n384 n385 n386 n464 => (upf_fr ef238 n23).trans ((upf_fr ef237 n22).trans (upf_fr ef236 n21))), (fun k n6 n7 n8 n9 n11 n12 n13 n14 n16 n18 n20 n25 n26 n27 n28 n30 n31 => rfl), (fun k n4 => rfl), (by omega), ⟨(by decide +kernel), trivial⟩⟩
