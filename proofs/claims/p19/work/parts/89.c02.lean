set_option maxRecDepth 100000 in
set_option maxHeartbeats 8000000 in
theorem CL_71_5_49 {X : pm_X} {d : Nat} {wr : pm_W} {Q : pm_R → Prop} {f0 : Nat → Int32} {A0 : Nat → List Int32} {R : Nat → Value} (hX : XO X) (k_78_0 : ∀ (f' : Nat → Int32) (A' : Nat → List Int32) (y2 : Int32), CI f' A' R → (∀ k : Nat, k ≠ 240 → k ≠ 272 → k ≠ 304 → f' k = f0 k) → (∀ k : Nat, k ≠ 16 → k ≠ 18 → k ≠ 20 → A' k = A0 k) → (0 ≤ y2.toInt ∧ y2.toInt ≤ 3) → pmE pg X pg_tyl pg_cl (d + 1) 71 78 [.ref 1, .ref 127, .int y2] [] (cd f' A' R wr) Q) : ∀ (m : Nat) (f : Nat → Int32) (A : Nat → List Int32) (x2 : Int32), CI f A R → (∀ k : Nat, k ≠ 240 → k ≠ 272 → k ≠ 304 → f k = f0 k) → (∀ k : Nat, k ≠ 16 → k ≠ 18 → k ≠ 20 → A k = A0 k) → (0 ≤ x2.toInt ∧ x2.toInt ≤ 3) → 3 - x2.toInt < (m : Int) → pmE pg X pg_tyl pg_cl (d + 1) 71 49 [.ref 1, .ref 127, .int x2] [] (cd f A R wr) Q := by
  intro m
  induction m with
  | zero =>
    intro f A x2 hI hG hF gx2 hm
    exfalso
    have l0 := zi_lo x2
    have u0 := zi_hi x2
    omega
  | succ m ih =>
    intro f A x2 hI hG hF gx2 hm
    refine pe_iload_n (j := 2) (by decide +kernel) rfl ?_
    refine pe_aload_n (j := 0) (by decide +kernel) rfl ?_
    refine pe_get (j := 36) (ci := 8) (n := 3) (by decide +kernel) (by decide +kernel) cd_o1 rfl ?_
    have hr_f_19 := cf_19 hI
    refine pz_icmp_ge (off := 24) (t := 78) (by decide +kernel) (by decide) rfl rfl rfl (fun h1 => ?_) (fun h1 => ?_)
    · skip
      exact k_78_0 f A x2 hI (fun k n240 n272 n304 => (hG k n240 n272 n304)) (fun k n16 n18 n20 => (hF k n16 n18 n20)) (by omega)
    · skip
      refine pe_aload_n (j := 0) (by decide +kernel) rfl ?_
      refine pe_get (j := 19) (ci := 8) (n := 1) (by decide +kernel) (by decide +kernel) cd_o1 rfl ?_
      refine pe_iload_n (j := 2) (by decide +kernel) rfl ?_
      by_cases h2 : x2.toInt = 0
      · skip
        refine pz_aald (q := 15) (t := 4) (n := 3) (i := 0) (C := "RingVillage$Row") (by decide +kernel) cd_q3 rfl rfl rfl (by omega) (by decide +kernel) rfl ?_
        refine pe_aload_n (j := 1) (by decide +kernel) rfl ?_
        refine pe_get (j := 19) (ci := 8) (n := 1) (by decide +kernel) (by decide +kernel) cd_o127 rfl ?_
        refine pe_iload_n (j := 2) (by decide +kernel) rfl ?_
        refine pz_aald (q := 141) (t := 4) (n := 3) (i := 0) (C := "RingVillage$Row") (by decide +kernel) cd_q129 rfl rfl rfl (by omega) (by decide +kernel) rfl ?_
        refine pi_V (j := 43) (mj := 57) (by decide +kernel) (cll_V (args := [.ref 141]) (n := 1) (by decide +kernel) rfl rfl cd_o15 (by decide +kernel) (Nat.le_of_ble_eq_true rfl) (Nat.le_of_ble_eq_true rfl)) ?_
        show pmE pg X pg_tyl pg_cl (d) 57 0 [.ref 15, .ref 141] [] (cd f A R wr) _
        refine pe_aload_n (j := 0) (by decide +kernel) rfl ?_
        refine pe_aload_n (j := 1) (by decide +kernel) rfl ?_
        refine pe_get (j := 15) (ci := 5) (n := 0) (by decide +kernel) (by decide +kernel) cd_o141 rfl ?_
        have hr_f_2256 := cf_2256 hI
        refine cz_put240 (jj := 15) (by decide +kernel) (by decide +kernel) hI (by omega) (by omega) (fun f3 ef3 hIf3 => ?_)
        refine pe_aload_n (j := 1) (by decide +kernel) rfl ?_
        refine pe_get (j := 9) (ci := 5) (n := 1) (by decide +kernel) (by decide +kernel) cd_o141 rfl ?_
        refine pe_iconstv (n := 0) (v := 0) (by decide +kernel) (by decide +kernel) ?_
        refine pe_aload_n (j := 0) (by decide +kernel) rfl ?_
        refine pe_get (j := 9) (ci := 5) (n := 1) (by decide +kernel) (by decide +kernel) cd_o15 rfl ?_
        refine pe_iconstv (n := 0) (v := 0) (by decide +kernel) (by decide +kernel) ?_
        refine pe_sipushv (n := 270) (v := 270) (by decide +kernel) (by decide +kernel) ?_
        have hl4 := kz_270
        have hl5 := kz_0
        have hl6 := kz_0
        refine cz_copy (j := 19) (a := 0) (b := 0) (c := 270) (by decide +kernel) (by decide +kernel) (Nat.le_of_ble_eq_true rfl) cd_a142 cd_a16 (by decide +kernel) (fun _ => cd_s16) hIf3 (cl_142 hIf3) (cl_16 hIf3) kz_0 kz_0 kz_270 (by omega) (by omega) (by omega) (by omega) (by omega) (Or.inl rfl) (ct_no (by decide +kernel)) (fun A7 eA7 hIA7 => ?_)
        refine pe_vret (by decide +kernel) rfl ⟨rfl, rfl, ?_⟩
        show pmE pg X pg_tyl pg_cl (d + 1) 71 72 [.ref 1, .ref 127, .int x2] [] (cd f3 A7 R wr) _
        refine pz_iinc (j := 2) (n := 1) (by decide +kernel) rfl rfl (by decide +kernel) (by omega) (by omega) (fun z8 hz8 => ?_)
        show pmE pg X pg_tyl pg_cl (d + 1) 71 75 [.ref 1, .ref 127, .int z8] [] (cd f3 A7 R wr) _
        refine pe_goto (off := (-26)) (t := 49) (by decide +kernel) (by decide) rfl ?_
        exact ih f3 A7 z8 hIA7 (fun k n240 n272 n304 => (upf_fr ef3 n240).trans ((hG k n240 n272 n304))) (fun k n16 n18 n20 => (upa_fr eA7 n16).trans ((hF k n16 n18 n20))) (by omega) (by omega)
      · skip
        by_cases h9 : x2.toInt = 1
        · skip
          refine pz_aald (q := 17) (t := 4) (n := 3) (i := 1) (C := "RingVillage$Row") (by decide +kernel) cd_q3 rfl rfl rfl (by omega) (by decide +kernel) rfl ?_
          refine pe_aload_n (j := 1) (by decide +kernel) rfl ?_
          refine pe_get (j := 19) (ci := 8) (n := 1) (by decide +kernel) (by decide +kernel) cd_o127 rfl ?_
          refine pe_iload_n (j := 2) (by decide +kernel) rfl ?_
          refine pz_aald (q := 143) (t := 4) (n := 3) (i := 1) (C := "RingVillage$Row") (by decide +kernel) cd_q129 rfl rfl rfl (by omega) (by decide +kernel) rfl ?_
          refine pi_V (j := 43) (mj := 57) (by decide +kernel) (cll_V (args := [.ref 143]) (n := 1) (by decide +kernel) rfl rfl cd_o17 (by decide +kernel) (Nat.le_of_ble_eq_true rfl) (Nat.le_of_ble_eq_true rfl)) ?_
          show pmE pg X pg_tyl pg_cl (d) 57 0 [.ref 17, .ref 143] [] (cd f A R wr) _
          refine pe_aload_n (j := 0) (by decide +kernel) rfl ?_
          refine pe_aload_n (j := 1) (by decide +kernel) rfl ?_
          refine pe_get (j := 15) (ci := 5) (n := 0) (by decide +kernel) (by decide +kernel) cd_o143 rfl ?_
          have hr_f_2288 := cf_2288 hI
          refine cz_put272 (jj := 15) (by decide +kernel) (by decide +kernel) hI (by omega) (by omega) (fun f10 ef10 hIf10 => ?_)
          refine pe_aload_n (j := 1) (by decide +kernel) rfl ?_
          refine pe_get (j := 9) (ci := 5) (n := 1) (by decide +kernel) (by decide +kernel) cd_o143 rfl ?_
          refine pe_iconstv (n := 0) (v := 0) (by decide +kernel) (by decide +kernel) ?_
          refine pe_aload_n (j := 0) (by decide +kernel) rfl ?_
          refine pe_get (j := 9) (ci := 5) (n := 1) (by decide +kernel) (by decide +kernel) cd_o17 rfl ?_
          refine pe_iconstv (n := 0) (v := 0) (by decide +kernel) (by decide +kernel) ?_
          refine pe_sipushv (n := 270) (v := 270) (by decide +kernel) (by decide +kernel) ?_
          have hl11 := kz_270
          have hl12 := kz_0
          have hl13 := kz_0
          refine cz_copy (j := 19) (a := 0) (b := 0) (c := 270) (by decide +kernel) (by decide +kernel) (Nat.le_of_ble_eq_true rfl) cd_a144 cd_a18 (by decide +kernel) (fun _ => cd_s18) hIf10 (cl_144 hIf10) (cl_18 hIf10) kz_0 kz_0 kz_270 (by omega) (by omega) (by omega) (by omega) (by omega) (Or.inl rfl) (ct_no (by decide +kernel)) (fun A14 eA14 hIA14 => ?_)
          refine pe_vret (by decide +kernel) rfl ⟨rfl, rfl, ?_⟩
          show pmE pg X pg_tyl pg_cl (d + 1) 71 72 [.ref 1, .ref 127, .int x2] [] (cd f10 A14 R wr) _
          refine pz_iinc (j := 2) (n := 1) (by decide +kernel) rfl rfl (by decide +kernel) (by omega) (by omega) (fun z15 hz15 => ?_)
          show pmE pg X pg_tyl pg_cl (d + 1) 71 75 [.ref 1, .ref 127, .int z15] [] (cd f10 A14 R wr) _
          refine pe_goto (off := (-26)) (t := 49) (by decide +kernel) (by decide) rfl ?_
          exact ih f10 A14 z15 hIA14 (fun k n240 n272 n304 => (upf_fr ef10 n272).trans ((hG k n240 n272 n304))) (fun k n16 n18 n20 => (upa_fr eA14 n18).trans ((hF k n16 n18 n20))) (by omega) (by omega)
        · skip
          refine pz_aald (q := 19) (t := 4) (n := 3) (i := 2) (C := "RingVillage$Row") (by decide +kernel) cd_q3 rfl rfl rfl (by omega) (by decide +kernel) rfl ?_
          refine pe_aload_n (j := 1) (by decide +kernel) rfl ?_
          refine pe_get (j := 19) (ci := 8) (n := 1) (by decide +kernel) (by decide +kernel) cd_o127 rfl ?_
          refine pe_iload_n (j := 2) (by decide +kernel) rfl ?_
          refine pz_aald (q := 145) (t := 4) (n := 3) (i := 2) (C := "RingVillage$Row") (by decide +kernel) cd_q129 rfl rfl rfl (by omega) (by decide +kernel) rfl ?_
          refine pi_V (j := 43) (mj := 57) (by decide +kernel) (cll_V (args := [.ref 145]) (n := 1) (by decide +kernel) rfl rfl cd_o19 (by decide +kernel) (Nat.le_of_ble_eq_true rfl) (Nat.le_of_ble_eq_true rfl)) ?_
          show pmE pg X pg_tyl pg_cl (d) 57 0 [.ref 19, .ref 145] [] (cd f A R wr) _
          refine pe_aload_n (j := 0) (by decide +kernel) rfl ?_
          refine pe_aload_n (j := 1) (by decide +kernel) rfl ?_
          refine pe_get (j := 15) (ci := 5) (n := 0) (by decide +kernel) (by decide +kernel) cd_o145 rfl ?_
          have hr_f_2320 := cf_2320 hI
          refine cz_put304 (jj := 15) (by decide +kernel) (by decide +kernel) hI (by omega) (by omega) (fun f16 ef16 hIf16 => ?_)
          refine pe_aload_n (j := 1) (by decide +kernel) rfl ?_
          refine pe_get (j := 9) (ci := 5) (n := 1) (by decide +kernel) (by decide +kernel) cd_o145 rfl ?_
          refine pe_iconstv (n := 0) (v := 0) (by decide +kernel) (by decide +kernel) ?_
          refine pe_aload_n (j := 0) (by decide +kernel) rfl ?_
          refine pe_get (j := 9) (ci := 5) (n := 1) (by decide +kernel) (by decide +kernel) cd_o19 rfl ?_
          refine pe_iconstv (n := 0) (v := 0) (by decide +kernel) (by decide +kernel) ?_
          refine pe_sipushv (n := 270) (v := 270) (by decide +kernel) (by decide +kernel) ?_
          have hl17 := kz_270
          have hl18 := kz_0
          have hl19 := kz_0
          refine cz_copy (j := 19) (a := 0) (b := 0) (c := 270) (by decide +kernel) (by decide +kernel) (Nat.le_of_ble_eq_true rfl) cd_a146 cd_a20 (by decide +kernel) (fun _ => cd_s20) hIf16 (cl_146 hIf16) (cl_20 hIf16) kz_0 kz_0 kz_270 (by omega) (by omega) (by omega) (by omega) (by omega) (Or.inl rfl) (ct_no (by decide +kernel)) (fun A20 eA20 hIA20 => ?_)
          refine pe_vret (by decide +kernel) rfl ⟨rfl, rfl, ?_⟩
          show pmE pg X pg_tyl pg_cl (d + 1) 71 72 [.ref 1, .ref 127, .int x2] [] (cd f16 A20 R wr) _
          refine pz_iinc (j := 2) (n := 1) (by decide +kernel) rfl rfl (by decide +kernel) (by omega) (by omega) (fun z21 hz21 => ?_)
          show pmE pg X pg_tyl pg_cl (d + 1) 71 75 [.ref 1, .ref 127, .int z21] [] (cd f16 A20 R wr) _
          refine pe_goto (off := (-26)) (t := 49) (by decide +kernel) (by decide) rfl ?_
          exact ih f16 A20 z21 hIA20 (fun k n240 n272 n304 => (upf_fr ef16 n304).trans ((hG k n240 n272 n304))) (fun k n16 n18 n20 => (upa_fr eA20 n20).trans ((hF k n16 n18 n20))) (by omega) (by omega)
set_option maxRecDepth 100000 in
set_option maxHeartbeats 8000000 in
theorem CL_71_5_18 {X : pm_X} {d : Nat} {wr : pm_W} {Q : pm_R → Prop} {f0 : Nat → Int32} {A0 : Nat → List Int32} {R : Nat → Value} (hX : XO X) (k_47_0 : ∀ (f' : Nat → Int32) (A' : Nat → List Int32) (y2 : Int32), CI f' A' R → (∀ k : Nat, k ≠ 80 → k ≠ 81 → k ≠ 82 → k ≠ 160 → k ≠ 161 → k ≠ 162 → f' k = f0 k) → (∀ k : Nat, k ≠ 6 → k ≠ 7 → k ≠ 8 → k ≠ 9 → k ≠ 11 → k ≠ 12 → k ≠ 13 → k ≠ 14 → A' k = A0 k) → (0 ≤ y2.toInt ∧ y2.toInt ≤ 2) → pmE pg X pg_tyl pg_cl (d + 1) 71 47 [.ref 1, .ref 127, .int y2] [] (cd f' A' R wr) Q) : ∀ (m : Nat) (f : Nat → Int32) (A : Nat → List Int32) (x2 : Int32), CI f A R → (∀ k : Nat, k ≠ 80 → k ≠ 81 → k ≠ 82 → k ≠ 160 → k ≠ 161 → k ≠ 162 → f k = f0 k) → (∀ k : Nat, k ≠ 6 → k ≠ 7 → k ≠ 8 → k ≠ 9 → k ≠ 11 → k ≠ 12 → k ≠ 13 → k ≠ 14 → A k = A0 k) → (0 ≤ x2.toInt ∧ x2.toInt ≤ 2) → 2 - x2.toInt < (m : Int) → pmE pg X pg_tyl pg_cl (d + 1) 71 18 [.ref 1, .ref 127, .int x2] [] (cd f A R wr) Q := by
  intro m
  induction m with
  | zero =>
    intro f A x2 hI hG hF gx2 hm
    exfalso
    have l0 := zi_lo x2
    have u0 := zi_hi x2
    omega
  | succ m ih =>
    intro f A x2 hI hG hF gx2 hm
    refine pe_iload_n (j := 2) (by decide +kernel) rfl ?_
    refine pe_aload_n (j := 0) (by decide +kernel) rfl ?_
    refine pe_get (j := 33) (ci := 8) (n := 2) (by decide +kernel) (by decide +kernel) cd_o1 rfl ?_
    have hr_f_18 := cf_18 hI
    refine pz_icmp_ge (off := 24) (t := 47) (by decide +kernel) (by decide) rfl rfl rfl (fun h1 => ?_) (fun h1 => ?_)
    · skip
      exact k_47_0 f A x2 hI (fun k n80 n81 n82 n160 n161 n162 => (hG k n80 n81 n82 n160 n161 n162)) (fun k n6 n7 n8 n9 n11 n12 n13 n14 => (hF k n6 n7 n8 n9 n11 n12 n13 n14)) (by omega)
    · skip
      refine pe_aload_n (j := 0) (by decide +kernel) rfl ?_
      refine pe_get (j := 11) (ci := 8) (n := 0) (by decide +kernel) (by decide +kernel) cd_o1 rfl ?_
      refine pe_iload_n (j := 2) (by decide +kernel) rfl ?_
      by_cases h2 : x2.toInt = 0
      · skip
        refine pz_aald (q := 5) (t := 3) (n := 2) (i := 0) (C := "RingVillage$Village") (by decide +kernel) cd_q2 rfl rfl rfl (by omega) (by decide +kernel) rfl ?_
        refine pe_aload_n (j := 1) (by decide +kernel) rfl ?_
        refine pe_get (j := 11) (ci := 8) (n := 0) (by decide +kernel) (by decide +kernel) cd_o127 rfl ?_
        refine pe_iload_n (j := 2) (by decide +kernel) rfl ?_
        refine pz_aald (q := 131) (t := 3) (n := 2) (i := 0) (C := "RingVillage$Village") (by decide +kernel) cd_q128 rfl rfl rfl (by omega) (by decide +kernel) rfl ?_
        refine pi_V (j := 39) (mj := 56) (by decide +kernel) (cll_V (args := [.ref 131]) (n := 1) (by decide +kernel) rfl rfl cd_o5 (by decide +kernel) (Nat.le_of_ble_eq_true rfl) (Nat.le_of_ble_eq_true rfl)) ?_
        show pmE pg X pg_tyl pg_cl (d) 56 0 [.ref 5, .ref 131] [] (cd f A R wr) _
        refine pe_aload_n (j := 0) (by decide +kernel) rfl ?_
        refine pe_aload_n (j := 1) (by decide +kernel) rfl ?_
        refine pe_get (j := 9) (ci := 9) (n := 0) (by decide +kernel) (by decide +kernel) cd_o131 rfl ?_
        have hr_f_2096 := cf_2096 hI
        refine cz_put80 (jj := 9) (by decide +kernel) (by decide +kernel) hI (by omega) (by omega) (fun f3 ef3 hIf3 => ?_)
        refine pe_aload_n (j := 0) (by decide +kernel) rfl ?_
        refine pe_aload_n (j := 1) (by decide +kernel) rfl ?_
        refine pe_get (j := 28) (ci := 9) (n := 1) (by decide +kernel) (by decide +kernel) cd_o131 rfl ?_
        refine pe_top (v := (f 2097)) (upf_fr ef3 (by decide)) ?_
        refine cz_put81 (jj := 28) (by decide +kernel) (by decide +kernel) hIf3 (fun f4 ef4 hIf4 => ?_)
        refine pe_aload_n (j := 0) (by decide +kernel) rfl ?_
        refine pe_aload_n (j := 1) (by decide +kernel) rfl ?_
        refine pe_get (j := 31) (ci := 9) (n := 2) (by decide +kernel) (by decide +kernel) cd_o131 rfl ?_
        have hr_f_2098 := cf_2098 hI
        refine pe_top (v := (f 2098)) ((upf_fr ef4 (by decide)).trans (upf_fr ef3 (by decide))) ?_
        refine cz_put82 (jj := 31) (by decide +kernel) (by decide +kernel) hIf4 (by omega) (by omega) (fun f5 ef5 hIf5 => ?_)
        refine pe_aload_n (j := 1) (by decide +kernel) rfl ?_
        refine pe_get (j := 15) (ci := 9) (n := 3) (by decide +kernel) (by decide +kernel) cd_o131 rfl ?_
        refine pe_iconstv (n := 0) (v := 0) (by decide +kernel) (by decide +kernel) ?_
        refine pe_aload_n (j := 0) (by decide +kernel) rfl ?_
        refine pe_get (j := 15) (ci := 9) (n := 3) (by decide +kernel) (by decide +kernel) cd_o5 rfl ?_
        refine pe_iconstv (n := 0) (v := 0) (by decide +kernel) (by decide +kernel) ?_
        refine pe_bipushv (n := 81) (v := 81) (by decide +kernel) (by decide +kernel) ?_
        have hl6 := kz_81
        have hl7 := kz_0
        have hl8 := kz_0
        refine cz_copy (j := 40) (a := 0) (b := 0) (c := 81) (by decide +kernel) (by decide +kernel) (Nat.le_of_ble_eq_true rfl) cd_a132 cd_a6 (by decide +kernel) (fun _ => cd_s6) hIf5 (cl_132 hIf5) (cl_6 hIf5) kz_0 kz_0 kz_81 (by omega) (by omega) (by omega) (by omega) (by omega) (Or.inl rfl) (ct_no (by decide +kernel)) (fun A9 eA9 hIA9 => ?_)
        refine pe_aload_n (j := 1) (by decide +kernel) rfl ?_
        refine pe_get (j := 19) (ci := 9) (n := 4) (by decide +kernel) (by decide +kernel) cd_o131 rfl ?_
        refine pe_iconstv (n := 0) (v := 0) (by decide +kernel) (by decide +kernel) ?_
        refine pe_aload_n (j := 0) (by decide +kernel) rfl ?_
        refine pe_get (j := 19) (ci := 9) (n := 4) (by decide +kernel) (by decide +kernel) cd_o5 rfl ?_
        refine pe_iconstv (n := 0) (v := 0) (by decide +kernel) (by decide +kernel) ?_
        refine pe_bipushv (n := 9) (v := 9) (by decide +kernel) (by decide +kernel) ?_
        have hl10 := kz_9
        have hl11 := kz_0
        have hl12 := kz_0
        refine cz_copy (j := 40) (a := 0) (b := 0) (c := 9) (by decide +kernel) (by decide +kernel) (Nat.le_of_ble_eq_true rfl) cd_a133 cd_a7 (by decide +kernel) (fun _ => cd_s7) hIA9 (cl_133 hIA9) (cl_7 hIA9) kz_0 kz_0 kz_9 (by omega) (by omega) (by omega) (by omega) (by omega) (Or.inl rfl) (ct_no (by decide +kernel)) (fun A13 eA13 hIA13 => ?_)
        refine pe_aload_n (j := 1) (by decide +kernel) rfl ?_
        refine pe_get (j := 22) (ci := 9) (n := 5) (by decide +kernel) (by decide +kernel) cd_o131 rfl ?_
        refine pe_iconstv (n := 0) (v := 0) (by decide +kernel) (by decide +kernel) ?_
        refine pe_aload_n (j := 0) (by decide +kernel) rfl ?_
        refine pe_get (j := 22) (ci := 9) (n := 5) (by decide +kernel) (by decide +kernel) cd_o5 rfl ?_
        refine pe_iconstv (n := 0) (v := 0) (by decide +kernel) (by decide +kernel) ?_
        refine pe_bipushv (n := 9) (v := 9) (by decide +kernel) (by decide +kernel) ?_
        have hl14 := kz_9
        have hl15 := kz_0
        have hl16 := kz_0
        refine cz_copy (j := 40) (a := 0) (b := 0) (c := 9) (by decide +kernel) (by decide +kernel) (Nat.le_of_ble_eq_true rfl) cd_a134 cd_a8 (by decide +kernel) (fun _ => cd_s8) hIA13 (cl_134 hIA13) (cl_8 hIA13) kz_0 kz_0 kz_9 (by omega) (by omega) (by omega) (by omega) (by omega) (Or.inl rfl) (ct_no (by decide +kernel)) (fun A17 eA17 hIA17 => ?_)
        refine pe_aload_n (j := 1) (by decide +kernel) rfl ?_
        refine pe_get (j := 25) (ci := 9) (n := 6) (by decide +kernel) (by decide +kernel) cd_o131 rfl ?_
        refine pe_iconstv (n := 0) (v := 0) (by decide +kernel) (by decide +kernel) ?_
        refine pe_aload_n (j := 0) (by decide +kernel) rfl ?_
        refine pe_get (j := 25) (ci := 9) (n := 6) (by decide +kernel) (by decide +kernel) cd_o5 rfl ?_
        refine pe_iconstv (n := 0) (v := 0) (by decide +kernel) (by decide +kernel) ?_
        refine pe_bipushv (n := 28) (v := 28) (by decide +kernel) (by decide +kernel) ?_
        have hl18 := kz_28
        have hl19 := kz_0
        have hl20 := kz_0
        refine cz_copy (j := 40) (a := 0) (b := 0) (c := 28) (by decide +kernel) (by decide +kernel) (Nat.le_of_ble_eq_true rfl) cd_a135 cd_a9 (by decide +kernel) (fun _ => cd_s9) hIA17 (cl_135 hIA17) (cl_9 hIA17) kz_0 kz_0 kz_28 (by omega) (by omega) (by omega) (by omega) (by omega) (Or.inl rfl) (ct_one (kd := 0) (P := fun kd => ∀ i, i < (28 : Int).toNat → CT kd ((0 : Int).toNat + i) ((A17 135).getD ((0 : Int).toNat + i) 0).toInt) (by decide +kernel) (fun i _ => ct_135 hIA17 rfl)) (fun A21 eA21 hIA21 => ?_)
        refine pe_vret (by decide +kernel) rfl ⟨rfl, rfl, ?_⟩
        show pmE pg X pg_tyl pg_cl (d + 1) 71 41 [.ref 1, .ref 127, .int x2] [] (cd f5 A21 R wr) _
        refine pz_iinc (j := 2) (n := 1) (by decide +kernel) rfl rfl (by decide +kernel) (by omega) (by omega) (fun z22 hz22 => ?_)
        show pmE pg X pg_tyl pg_cl (d + 1) 71 44 [.ref 1, .ref 127, .int z22] [] (cd f5 A21 R wr) _
        refine pe_goto (off := (-26)) (t := 18) (by decide +kernel) (by decide) rfl ?_
        exact ih f5 A21 z22 hIA21 (fun k n80 n81 n82 n160 n161 n162 => (upf_fr ef5 n82).trans ((upf_fr ef4 n81).trans ((upf_fr ef3 n80).trans ((hG k n80 n81 n82 n160 n161 n162))))) (fun k n6 n7 n8 n9 n11 n12 n13 n14 => (upa_fr eA21 n9).trans ((upa_fr eA17 n8).trans ((upa_fr eA13 n7).trans ((upa_fr eA9 n6).trans ((hF k n6 n7 n8 n9 n11 n12 n13 n14)))))) (by omega) (by omega)
      · skip
        refine pz_aald (q := 10) (t := 3) (n := 2) (i := 1) (C := "RingVillage$Village") (by decide +kernel) cd_q2 rfl rfl rfl (by omega) (by decide +kernel) rfl ?_
        refine pe_aload_n (j := 1) (by decide +kernel) rfl ?_
        refine pe_get (j := 11) (ci := 8) (n := 0) (by decide +kernel) (by decide +kernel) cd_o127 rfl ?_
        refine pe_iload_n (j := 2) (by decide +kernel) rfl ?_
        refine pz_aald (q := 136) (t := 3) (n := 2) (i := 1) (C := "RingVillage$Village") (by decide +kernel) cd_q128 rfl rfl rfl (by omega) (by decide +kernel) rfl ?_
        refine pi_V (j := 39) (mj := 56) (by decide +kernel) (cll_V (args := [.ref 136]) (n := 1) (by decide +kernel) rfl rfl cd_o10 (by decide +kernel) (Nat.le_of_ble_eq_true rfl) (Nat.le_of_ble_eq_true rfl)) ?_
        show pmE pg X pg_tyl pg_cl (d) 56 0 [.ref 10, .ref 136] [] (cd f A R wr) _
        refine pe_aload_n (j := 0) (by decide +kernel) rfl ?_
        refine pe_aload_n (j := 1) (by decide +kernel) rfl ?_
        refine pe_get (j := 9) (ci := 9) (n := 0) (by decide +kernel) (by decide +kernel) cd_o136 rfl ?_
        have hr_f_2176 := cf_2176 hI
        refine cz_put160 (jj := 9) (by decide +kernel) (by decide +kernel) hI (by omega) (by omega) (fun f23 ef23 hIf23 => ?_)
        refine pe_aload_n (j := 0) (by decide +kernel) rfl ?_
        refine pe_aload_n (j := 1) (by decide +kernel) rfl ?_
        refine pe_get (j := 28) (ci := 9) (n := 1) (by decide +kernel) (by decide +kernel) cd_o136 rfl ?_
        refine pe_top (v := (f 2177)) (upf_fr ef23 (by decide)) ?_
        refine cz_put161 (jj := 28) (by decide +kernel) (by decide +kernel) hIf23 (fun f24 ef24 hIf24 => ?_)
        refine pe_aload_n (j := 0) (by decide +kernel) rfl ?_
        refine pe_aload_n (j := 1) (by decide +kernel) rfl ?_
        refine pe_get (j := 31) (ci := 9) (n := 2) (by decide +kernel) (by decide +kernel) cd_o136 rfl ?_
        have hr_f_2178 := cf_2178 hI
        refine pe_top (v := (f 2178)) ((upf_fr ef24 (by decide)).trans (upf_fr ef23 (by decide))) ?_
        refine cz_put162 (jj := 31) (by decide +kernel) (by decide +kernel) hIf24 (by omega) (by omega) (fun f25 ef25 hIf25 => ?_)
        refine pe_aload_n (j := 1) (by decide +kernel) rfl ?_
        refine pe_get (j := 15) (ci := 9) (n := 3) (by decide +kernel) (by decide +kernel) cd_o136 rfl ?_
        refine pe_iconstv (n := 0) (v := 0) (by decide +kernel) (by decide +kernel) ?_
        refine pe_aload_n (j := 0) (by decide +kernel) rfl ?_
        refine pe_get (j := 15) (ci := 9) (n := 3) (by decide +kernel) (by decide +kernel) cd_o10 rfl ?_
        refine pe_iconstv (n := 0) (v := 0) (by decide +kernel) (by decide +kernel) ?_
        refine pe_bipushv (n := 81) (v := 81) (by decide +kernel) (by decide +kernel) ?_
        have hl26 := kz_81
        have hl27 := kz_0
        have hl28 := kz_0
        refine cz_copy (j := 40) (a := 0) (b := 0) (c := 81) (by decide +kernel) (by decide +kernel) (Nat.le_of_ble_eq_true rfl) cd_a137 cd_a11 (by decide +kernel) (fun _ => cd_s11) hIf25 (cl_137 hIf25) (cl_11 hIf25) kz_0 kz_0 kz_81 (by omega) (by omega) (by omega) (by omega) (by omega) (Or.inl rfl) (ct_no (by decide +kernel)) (fun A29 eA29 hIA29 => ?_)
        refine pe_aload_n (j := 1) (by decide +kernel) rfl ?_
        refine pe_get (j := 19) (ci := 9) (n := 4) (by decide +kernel) (by decide +kernel) cd_o136 rfl ?_
        refine pe_iconstv (n := 0) (v := 0) (by decide +kernel) (by decide +kernel) ?_
        refine pe_aload_n (j := 0) (by decide +kernel) rfl ?_
        refine pe_get (j := 19) (ci := 9) (n := 4) (by decide +kernel) (by decide +kernel) cd_o10 rfl ?_
        refine pe_iconstv (n := 0) (v := 0) (by decide +kernel) (by decide +kernel) ?_
        refine pe_bipushv (n := 9) (v := 9) (by decide +kernel) (by decide +kernel) ?_
        have hl30 := kz_9
        have hl31 := kz_0
        have hl32 := kz_0
        refine cz_copy (j := 40) (a := 0) (b := 0) (c := 9) (by decide +kernel) (by decide +kernel) (Nat.le_of_ble_eq_true rfl) cd_a138 cd_a12 (by decide +kernel) (fun _ => cd_s12) hIA29 (cl_138 hIA29) (cl_12 hIA29) kz_0 kz_0 kz_9 (by omega) (by omega) (by omega) (by omega) (by omega) (Or.inl rfl) (ct_no (by decide +kernel)) (fun A33 eA33 hIA33 => ?_)
        refine pe_aload_n (j := 1) (by decide +kernel) rfl ?_
        refine pe_get (j := 22) (ci := 9) (n := 5) (by decide +kernel) (by decide +kernel) cd_o136 rfl ?_
        refine pe_iconstv (n := 0) (v := 0) (by decide +kernel) (by decide +kernel) ?_
        refine pe_aload_n (j := 0) (by decide +kernel) rfl ?_
        refine pe_get (j := 22) (ci := 9) (n := 5) (by decide +kernel) (by decide +kernel) cd_o10 rfl ?_
        refine pe_iconstv (n := 0) (v := 0) (by decide +kernel) (by decide +kernel) ?_
        refine pe_bipushv (n := 9) (v := 9) (by decide +kernel) (by decide +kernel) ?_
        have hl34 := kz_9
        have hl35 := kz_0
        have hl36 := kz_0
        refine cz_copy (j := 40) (a := 0) (b := 0) (c := 9) (by decide +kernel) (by decide +kernel) (Nat.le_of_ble_eq_true rfl) cd_a139 cd_a13 (by decide +kernel) (fun _ => cd_s13) hIA33 (cl_139 hIA33) (cl_13 hIA33) kz_0 kz_0 kz_9 (by omega) (by omega) (by omega) (by omega) (by omega) (Or.inl rfl) (ct_no (by decide +kernel)) (fun A37 eA37 hIA37 => ?_)
        refine pe_aload_n (j := 1) (by decide +kernel) rfl ?_
        refine pe_get (j := 25) (ci := 9) (n := 6) (by decide +kernel) (by decide +kernel) cd_o136 rfl ?_
        refine pe_iconstv (n := 0) (v := 0) (by decide +kernel) (by decide +kernel) ?_
        refine pe_aload_n (j := 0) (by decide +kernel) rfl ?_
        refine pe_get (j := 25) (ci := 9) (n := 6) (by decide +kernel) (by decide +kernel) cd_o10 rfl ?_
        refine pe_iconstv (n := 0) (v := 0) (by decide +kernel) (by decide +kernel) ?_
        refine pe_bipushv (n := 28) (v := 28) (by decide +kernel) (by decide +kernel) ?_
        have hl38 := kz_28
        have hl39 := kz_0
        have hl40 := kz_0
        refine cz_copy (j := 40) (a := 0) (b := 0) (c := 28) (by decide +kernel) (by decide +kernel) (Nat.le_of_ble_eq_true rfl) cd_a140 cd_a14 (by decide +kernel) (fun _ => cd_s14) hIA37 (cl_140 hIA37) (cl_14 hIA37) kz_0 kz_0 kz_28 (by omega) (by omega) (by omega) (by omega) (by omega) (Or.inl rfl) (ct_one (kd := 0) (P := fun kd => ∀ i, i < (28 : Int).toNat → CT kd ((0 : Int).toNat + i) ((A37 140).getD ((0 : Int).toNat + i) 0).toInt) (by decide +kernel) (fun i _ => ct_140 hIA37 rfl)) (fun A41 eA41 hIA41 => ?_)
        refine pe_vret (by decide +kernel) rfl ⟨rfl, rfl, ?_⟩
        show pmE pg X pg_tyl pg_cl (d + 1) 71 41 [.ref 1, .ref 127, .int x2] [] (cd f25 A41 R wr) _
        refine pz_iinc (j := 2) (n := 1) (by decide +kernel) rfl rfl (by decide +kernel) (by omega) (by omega) (fun z42 hz42 => ?_)
        show pmE pg X pg_tyl pg_cl (d + 1) 71 44 [.ref 1, .ref 127, .int z42] [] (cd f25 A41 R wr) _
        refine pe_goto (off := (-26)) (t := 18) (by decide +kernel) (by decide) rfl ?_
        exact ih f25 A41 z42 hIA41 (fun k n80 n81 n82 n160 n161 n162 => (upf_fr ef25 n162).trans ((upf_fr ef24 n161).trans ((upf_fr ef23 n160).trans ((hG k n80 n81 n82 n160 n161 n162))))) (fun k n6 n7 n8 n9 n11 n12 n13 n14 => (upa_fr eA41 n14).trans ((upa_fr eA37 n13).trans ((upa_fr eA33 n12).trans ((upa_fr eA29 n11).trans ((hF k n6 n7 n8 n9 n11 n12 n13 n14)))))) (by omega) (by omega)
set_option maxRecDepth 100000 in
set_option maxHeartbeats 8000000 in
theorem CM_71_5 {X : pm_X} {d : Nat} {wr : pm_W} {f : Nat → Int32} {A : Nat → List Int32} {R : Nat → Value} (hX : XO X) (hI : CI f A R) : pmE pg X pg_tyl pg_cl (d + 1) 71 0 (pm_ent (pm_max pg 71) [.ref 1, .ref 127]) [] (cd f A R wr) (fun q => ∃ (f' : Nat → Int32) (A' : Nat → List Int32), q = (none, cd f' A' R wr, 0, 0) ∧ CI f' A' R ∧ (∀ k : Nat, k ≠ 18 → k ≠ 19 → k ≠ 21 → k ≠ 22 → k ≠ 23 → k ≠ 80 → k ≠ 81 → k ≠ 82 → k ≠ 160 → k ≠ 161 → k ≠ 162 → k ≠ 240 → k ≠ 272 → k ≠ 304 → f' k = f k) ∧ (∀ k : Nat, k ≠ 4 → k ≠ 6 → k ≠ 7 → k ≠ 8 → k ≠ 9 → k ≠ 11 → k ≠ 12 → k ≠ 13 → k ≠ 14 → k ≠ 16 → k ≠ 18 → k ≠ 20 → A' k = A k) ∧ ((f' 21).toInt + (-1) * (f 2037).toInt) ≤ 0 ∧ ((-1) * (f' 21).toInt + (f 2037).toInt) ≤ 0 ∧ ((True))) := by
  show pmE pg X pg_tyl pg_cl (d + 1) 71 0 [.ref 1, .ref 127, pm_dead] [] (cd f A R wr) _
  refine pe_aload_n (j := 0) (by decide +kernel) rfl ?_
  refine pe_aload_n (j := 1) (by decide +kernel) rfl ?_
  refine pe_get (j := 33) (ci := 8) (n := 2) (by decide +kernel) (by decide +kernel) cd_o127 rfl ?_
  have hr_f_2034 := cf_2034 hI
  refine cz_put18 (jj := 33) (by decide +kernel) (by decide +kernel) hI (by omega) (by omega) (fun f1 ef1 hIf1 => ?_)
  refine pe_aload_n (j := 0) (by decide +kernel) rfl ?_
  refine pe_aload_n (j := 1) (by decide +kernel) rfl ?_
  refine pe_get (j := 36) (ci := 8) (n := 3) (by decide +kernel) (by decide +kernel) cd_o127 rfl ?_
  have hr_f_2035 := cf_2035 hI
  refine pe_top (v := (f 2035)) (upf_fr ef1 (by decide)) ?_
  refine cz_put19 (jj := 36) (by decide +kernel) (by decide +kernel) hIf1 (by omega) (by omega) (fun f2 ef2 hIf2 => ?_)
  refine pe_iconstv (n := 0) (v := 0) (by decide +kernel) (by decide +kernel) ?_
  refine pe_istore_n (j := 2) (ls' := [.ref 1, .ref 127, .int 0]) (by decide +kernel) (Nat.le_of_ble_eq_true rfl) rfl ?_
  refine CL_71_5_18 hX (fun f3 A4 y5 hIy6 hGf3 hFA4 gy5 => ?_) 3 f2 A 0 hIf2 (fun k _ _ _ _ _ _ => rfl) (fun k _ _ _ _ _ _ _ _ => rfl) (by decide +kernel) (by decide +kernel)
  refine pe_iconstv (n := 0) (v := 0) (by decide +kernel) (by decide +kernel) ?_
  refine pe_istore_n (j := 2) (ls' := [.ref 1, .ref 127, .int 0]) (by decide +kernel) (Nat.le_of_ble_eq_true rfl) rfl ?_
  refine CL_71_5_49 hX (fun f7 A8 y9 hIy10 hGf7 hFA8 gy9 => ?_) 4 f3 A4 0 hIy6 (fun k _ _ _ => rfl) (fun k _ _ _ => rfl) (by decide +kernel) (by decide +kernel)
  refine pe_aload_n (j := 0) (by decide +kernel) rfl ?_
  refine pe_aload_n (j := 1) (by decide +kernel) rfl ?_
  refine pe_get (j := 46) (ci := 8) (n := 5) (by decide +kernel) (by decide +kernel) cd_o127 rfl ?_
  have hr_f_2037 := cf_2037 hI
  refine pe_top (v := (f 2037)) (((hGf7 2037 (by decide) (by decide) (by decide))).trans (((hGf3 2037 (by decide) (by decide) (by decide) (by decide) (by decide) (by decide))).trans ((upf_fr ef2 (by decide)).trans (upf_fr ef1 (by decide))))) ?_
  refine cz_put21 (jj := 46) (by decide +kernel) (by decide +kernel) hIy10 (by omega) (by omega) (fun f11 ef11 hIf11 => ?_)
  refine pe_aload_n (j := 1) (by decide +kernel) rfl ?_
  refine pe_get (j := 23) (ci := 8) (n := 4) (by decide +kernel) (by decide +kernel) cd_o127 rfl ?_
  refine pe_iconstv (n := 0) (v := 0) (by decide +kernel) (by decide +kernel) ?_
  refine pe_aload_n (j := 0) (by decide +kernel) rfl ?_
  refine pe_get (j := 23) (ci := 8) (n := 4) (by decide +kernel) (by decide +kernel) cd_o1 rfl ?_
  refine pe_iconstv (n := 0) (v := 0) (by decide +kernel) (by decide +kernel) ?_
  refine pe_aload_n (j := 0) (by decide +kernel) rfl ?_
  refine pe_get (j := 46) (ci := 8) (n := 5) (by decide +kernel) (by decide +kernel) cd_o1 rfl ?_
  refine pe_top (v := (f 2037)) (upf_at ef11) ?_
  have hl12 := kz_0
  have hl13 := kz_0
  refine cz_copy (j := 49) (a := 0) (b := 0) (c := (f 2037).toInt) (by decide +kernel) (by decide +kernel) (Nat.le_of_ble_eq_true rfl) cd_a130 cd_a4 (by decide +kernel) (fun _ => cd_s4) hIf11 (cl_130 hIf11) (cl_4 hIf11) kz_0 kz_0 rfl (by omega) (by omega) (by omega) (by omega) (by omega) (Or.inr (fun i => fits_b (ct_130 hIf11 rfl))) (ct_one (kd := 7) (P := fun kd => ∀ i, i < ((f 2037).toInt : Int).toNat → CT kd ((0 : Int).toNat + i) ((A8 130).getD ((0 : Int).toNat + i) 0).toInt) (by decide +kernel) (fun i _ => ct_130 hIf11 rfl)) (fun A14 eA14 hIA14 => ?_)
  refine pe_aload_n (j := 0) (by decide +kernel) rfl ?_
  refine pe_aload_n (j := 1) (by decide +kernel) rfl ?_
  refine pe_get (j := 55) (ci := 8) (n := 6) (by decide +kernel) (by decide +kernel) cd_o127 rfl ?_
  refine pe_top (v := (f 2038)) ((upf_fr ef11 (by decide)).trans (((hGf7 2038 (by decide) (by decide) (by decide))).trans (((hGf3 2038 (by decide) (by decide) (by decide) (by decide) (by decide) (by decide))).trans ((upf_fr ef2 (by decide)).trans (upf_fr ef1 (by decide)))))) ?_
  refine cz_put22 (jj := 55) (by decide +kernel) (by decide +kernel) hIA14 (fun f15 ef15 hIf15 => ?_)
  refine pe_aload_n (j := 0) (by decide +kernel) rfl ?_
  refine pe_aload_n (j := 1) (by decide +kernel) rfl ?_
  refine pe_get (j := 27) (ci := 8) (n := 7) (by decide +kernel) (by decide +kernel) cd_o127 rfl ?_
  refine pe_top (v := (f 2039)) ((upf_fr ef15 (by decide)).trans ((upf_fr ef11 (by decide)).trans (((hGf7 2039 (by decide) (by decide) (by decide))).trans (((hGf3 2039 (by decide) (by decide) (by decide) (by decide) (by decide) (by decide))).trans ((upf_fr ef2 (by decide)).trans (upf_fr ef1 (by decide))))))) ?_
  refine cz_put23 (jj := 27) (by decide +kernel) (by decide +kernel) hIf15 (fun f16 ef16 hIf16 => ?_)
  have hx17 : (f16 2037).toInt = (f 2037).toInt := (congrArg Int32.toInt (show f16 2037 = (f 2037) from (upf_fr ef16 (by decide)).trans ((upf_fr ef15 (by decide)).trans ((upf_fr ef11 (by decide)).trans (((hGf7 2037 (by decide) (by decide) (by decide))).trans (((hGf3 2037 (by decide) (by decide) (by decide) (by decide) (by decide) (by decide))).trans ((upf_fr ef2 (by decide)).trans (upf_fr ef1 (by decide))))))))).trans rfl
  have hx18 : (f16 21).toInt = (f 2037).toInt := (congrArg Int32.toInt (show f16 21 = (f 2037) from (upf_fr ef16 (by decide)).trans ((upf_fr ef15 (by decide)).trans (upf_at ef11)))).trans rfl
  have hx19 : (f16 2037).toInt = (f 2037).toInt := (congrArg Int32.toInt (show f16 2037 = (f 2037) from (upf_fr ef16 (by decide)).trans ((upf_fr ef15 (by decide)).trans ((upf_fr ef11 (by decide)).trans (((hGf7 2037 (by decide) (by decide) (by decide))).trans (((hGf3 2037 (by decide) (by decide) (by decide) (by decide) (by decide) (by decide))).trans ((upf_fr ef2 (by decide)).trans (upf_fr ef1 (by decide))))))))).trans rfl
  have hx20 : (f16 21).toInt = (f 2037).toInt := (congrArg Int32.toInt (show f16 21 = (f 2037) from (upf_fr ef16 (by decide)).trans ((upf_fr ef15 (by decide)).trans (upf_at ef11)))).trans rfl
  exact pe_vret (by decide +kernel) rfl ⟨f16, A14, rfl, hIf16, (fun k n18 n19 n21 n22 n23 n80 n81 n82 n160 n161 n162 n240 n272 n304 => (upf_fr ef16 n23).trans ((upf_fr ef15 n22).trans ((upf_fr ef11 n21).trans (((hGf7 k n240 n272 n304)).trans (((hGf3 k n80 n81 n82 n160 n161 n162)).trans ((upf_fr ef2 n19).trans (upf_fr ef1 n18))))))), (fun k n4 n6 n7 n8 n9 n11 n12 n13 n14 n16 n18 n20 => (upa_fr eA14 n4).trans (((hFA8 k n16 n18 n20)).trans ((hFA4 k n6 n7 n8 n9 n11 n12 n13 n14)))), (by omega), (by omega), trivial⟩
set_option maxRecDepth 100000 in
set_option maxHeartbeats 8000000 in
theorem CM_70 {X : pm_X} {d : Nat} {wr : pm_W} {f : Nat → Int32} {A : Nat → List Int32} {R : Nat → Value} {x1 : Int32} (hX : XO X) (hI : CI f A R) : pmE pg X pg_tyl pg_cl (d + 2) 70 0 (pm_ent (pm_max pg 70) [.ref 0, .int x1]) [] (cd f A R wr) (fun q => ∃ (f' : Nat → Int32) (A' : Nat → List Int32) (r : Int32), q = (some (.int r), cd f' A' R wr, 0, 0) ∧ CI f' A' R ∧ (∀ k : Nat, k ≠ 1394 → k ≠ 1395 → k ≠ 1397 → k ≠ 1398 → k ≠ 1399 → k ≠ 1456 → k ≠ 1457 → k ≠ 1458 → k ≠ 1536 → k ≠ 1537 → k ≠ 1538 → k ≠ 1616 → k ≠ 1648 → k ≠ 1680 → k ≠ 1714 → k ≠ 1715 → k ≠ 1717 → k ≠ 1718 → k ≠ 1719 → k ≠ 1776 → k ≠ 1777 → k ≠ 1778 → k ≠ 1856 → k ≠ 1857 → k ≠ 1858 → k ≠ 1936 → k ≠ 1968 → k ≠ 2000 → k ≠ 2034 → k ≠ 2035 → k ≠ 2037 → k ≠ 2038 → k ≠ 2039 → k ≠ 2096 → k ≠ 2097 → k ≠ 2098 → k ≠ 2176 → k ≠ 2177 → k ≠ 2178 → k ≠ 2256 → k ≠ 2288 → k ≠ 2320 → f' k = f k) ∧ (∀ k : Nat, k ≠ 22 → k ≠ 90 → k ≠ 92 → k ≠ 93 → k ≠ 94 → k ≠ 95 → k ≠ 97 → k ≠ 98 → k ≠ 99 → k ≠ 100 → k ≠ 102 → k ≠ 104 → k ≠ 106 → k ≠ 110 → k ≠ 112 → k ≠ 113 → k ≠ 114 → k ≠ 115 → k ≠ 117 → k ≠ 118 → k ≠ 119 → k ≠ 120 → k ≠ 122 → k ≠ 124 → k ≠ 126 → k ≠ 130 → k ≠ 132 → k ≠ 133 → k ≠ 134 → k ≠ 135 → k ≠ 137 → k ≠ 138 → k ≠ 139 → k ≠ 140 → k ≠ 142 → k ≠ 144 → k ≠ 146 → A' k = A k) ∧ ((r = 1 ∧ ((x1.toInt = 0 ∧ (f' 1397).toInt = (f 21).toInt ∧ ((A' 22).getD 0 0).toInt = 1 ∧ (f' 21).toInt = (f 21).toInt ∧ (f' 1717).toInt = (f 1717).toInt ∧ (f' 2037).toInt = (f 2037).toInt ∧ ((A' 22).getD 1 0).toInt = ((A 22).getD 1 0).toInt ∧ ((A' 22).getD 2 0).toInt = ((A 22).getD 2 0).toInt) ∨ (x1.toInt = 1 ∧ (f' 1717).toInt = (f 21).toInt ∧ ((A' 22).getD 1 0).toInt = 1 ∧ (f' 21).toInt = (f 21).toInt ∧ (f' 1397).toInt = (f 1397).toInt ∧ (f' 2037).toInt = (f 2037).toInt ∧ ((A' 22).getD 0 0).toInt = ((A 22).getD 0 0).toInt ∧ ((A' 22).getD 2 0).toInt = ((A 22).getD 2 0).toInt) ∨ (x1.toInt = 2 ∧ (f' 2037).toInt = (f 21).toInt ∧ ((A' 22).getD 2 0).toInt = 1 ∧ (f' 21).toInt = (f 21).toInt ∧ (f' 1397).toInt = (f 1397).toInt ∧ (f' 1717).toInt = (f 1717).toInt ∧ ((A' 22).getD 0 0).toInt = ((A 22).getD 0 0).toInt ∧ ((A' 22).getD 1 0).toInt = ((A 22).getD 1 0).toInt)) ∧ (0 ≤ x1.toInt ∧ x1.toInt ≤ 2)) ∨ (r = 0 ∧ ((x1.toInt < 0 ∨ 2 < x1.toInt) ∧ (f' 21).toInt = (f 21).toInt ∧ (f' 1397).toInt = (f 1397).toInt ∧ (f' 1717).toInt = (f 1717).toInt ∧ (f' 2037).toInt = (f 2037).toInt ∧ ((A' 22).getD 0 0).toInt = ((A 22).getD 0 0).toInt ∧ ((A' 22).getD 1 0).toInt = ((A 22).getD 1 0).toInt ∧ ((A' 22).getD 2 0).toInt = ((A 22).getD 2 0).toInt) ∧ True))) := by
  show pmE pg X pg_tyl pg_cl (d + 2) 70 0 [.ref 0, .int x1] [] (cd f A R wr) _
  by_cases h1 : x1.toInt = 0
  · skip
    rw [show x1 = 0 from ti_eq (h1.trans kz_0.symm)]
    have hlk2 := kz_0
    refine pe_iload_n (j := 1) (by decide +kernel) rfl ?_
    refine pz_if_lt (off := 8) (t := 9) (by decide +kernel) (by decide) rfl kz_0 (fun h3 => by omega) (fun h3 => ?_)
    refine pe_iload_n (j := 1) (by decide +kernel) rfl ?_
    refine pe_iconstv (n := 3) (v := 3) (by decide +kernel) (by decide +kernel) ?_
    refine pz_icmp_lt (off := 5) (t := 11) (by decide +kernel) (by decide) rfl kz_0 kz_3 (fun h4 => ?_) (fun h4 => by omega)
    refine pe_aload_n (j := 0) (by decide +kernel) rfl ?_
    refine pe_get (j := 16) (ci := 11) (n := 1) (by decide +kernel) (by decide +kernel) cd_o0 rfl ?_
    refine pe_iload_n (j := 1) (by decide +kernel) rfl ?_
    refine pz_aald (q := 87) (t := 5) (n := 3) (i := 0) (C := "RingVillage$Told") (by decide +kernel) cd_q21 rfl rfl kz_0 rfl (by decide +kernel) rfl ?_
    refine pe_aload_n (j := 0) (by decide +kernel) rfl ?_
    refine pe_get (j := 12) (ci := 11) (n := 0) (by decide +kernel) (by decide +kernel) cd_o0 rfl ?_
    have hr_f_21 := cf_21 hI
    refine pz_callV (j := 166) (mj := 71) (by decide +kernel) (cll_V (args := [.ref 1]) (n := 1) (by decide +kernel) rfl rfl cd_o87 (by decide +kernel) (Nat.le_of_ble_eq_true rfl) (Nat.le_of_ble_eq_true rfl)) (CM_71 hX hI) (fun q5a q5b q5c q5d hqq5 => ?_)
    obtain ⟨f6, A7, eq5, hIq5, hGq5, hFq5, hX0q5, hX1q5, kq5⟩ := hqq5
    cases eq5
    refine ⟨rfl, rfl, ?_⟩
    have hr_f6_1397 := cf_1397 hIq5
    show pmE pg X pg_tyl pg_cl (d + 2) 70 24 [.ref 0, .int 0] [] (cd f6 A7 R wr) _
    refine pe_aload_n (j := 0) (by decide +kernel) rfl ?_
    refine pe_get (j := 20) (ci := 11) (n := 2) (by decide +kernel) (by decide +kernel) cd_o0 rfl ?_
    refine pe_iload_n (j := 1) (by decide +kernel) rfl ?_
    refine pe_iconstv (n := 1) (v := 1) (by decide +kernel) (by decide +kernel) ?_
    refine cz_st22 (by decide +kernel) hIq5 kz_0 (by omega) (by omega) (fun A8 eA8 hIA8 => ?_)
    refine pe_iconstv (n := 1) (v := 1) (by decide +kernel) (by decide +kernel) ?_
    have hl9 := kz_1
    have hx10 : ((A8 22).getD 0 0).toInt = 1 := (congrArg Int32.toInt (show (A8 22).getD 0 0 = (vp_nar .boolean 1) from el_eq eA8 (by rw [(cl_22 hIq5)]; decide))).trans nar_1
    have hx11 : ((A8 22).getD 1 0).toInt = ((A 22).getD 1 0).toInt := (congrArg Int32.toInt (show (A8 22).getD 1 0 = ((A 22).getD 1 0) from (el_ne eA8 (by omega)).trans (el_fr ((hFq5 22 (by decide) (by decide) (by decide) (by decide) (by decide) (by decide) (by decide) (by decide) (by decide) (by decide) (by decide) (by decide)))))).trans rfl
    have hx12 : ((A8 22).getD 2 0).toInt = ((A 22).getD 2 0).toInt := (congrArg Int32.toInt (show (A8 22).getD 2 0 = ((A 22).getD 2 0) from (el_ne eA8 (by omega)).trans (el_fr ((hFq5 22 (by decide) (by decide) (by decide) (by decide) (by decide) (by decide) (by decide) (by decide) (by decide) (by decide) (by decide) (by decide)))))).trans rfl
    have hr_f_1717 := cf_1717 hI
    have hx13 : (f6 1717).toInt = (f 1717).toInt := (congrArg Int32.toInt (show f6 1717 = (f 1717) from (hGq5 1717 (by decide) (by decide) (by decide) (by decide) (by decide) (by decide) (by decide) (by decide) (by decide) (by decide) (by decide) (by decide) (by decide) (by decide)))).trans rfl
    have hr_f_2037 := cf_2037 hI
    have hx14 : (f6 2037).toInt = (f 2037).toInt := (congrArg Int32.toInt (show f6 2037 = (f 2037) from (hGq5 2037 (by decide) (by decide) (by decide) (by decide) (by decide) (by decide) (by decide) (by decide) (by decide) (by decide) (by decide) (by decide) (by decide) (by decide)))).trans rfl
    have hx15 : (f6 21).toInt = (f 21).toInt := (congrArg Int32.toInt (show f6 21 = (f 21) from (hGq5 21 (by decide) (by decide) (by decide) (by decide) (by decide) (by decide) (by decide) (by decide) (by decide) (by decide) (by decide) (by decide) (by decide) (by decide)))).trans rfl
    exact pe_iret (by decide +kernel) rfl rfl ⟨f6, A8, 1, rfl, hIA8, (fun k n1394 n1395 n1397 n1398 n1399 n1456 n1457 n1458 n1536 n1537 n1538 n1616 n1648 n1680 n1714 n1715 n1717 n1718 n1719 n1776 n1777 n1778 n1856 n1857 n1858 n1936 n1968 n2000 n2034 n2035 n2037 n2038 n2039 n2096 n2097 n2098 n2176 n2177 n2178 n2256 n2288 n2320 => (hGq5 k n1394 n1395 n1397 n1398 n1399 n1456 n1457 n1458 n1536 n1537 n1538 n1616 n1648 n1680)), (fun k n22 n90 n92 n93 n94 n95 n97 n98 n99 n100 n102 n104 n106 n110 n112 n113 n114 n115 n117 n118 n119 n120 n122 n124 n126 n130 n132 n133 n134 n135 n137 n138 n139 n140 n142 n144 n146 => (upa_fr eA8 n22).trans ((hFq5 k n90 n92 n93 n94 n95 n97 n98 n99 n100 n102 n104 n106))), Or.inl ⟨rfl, (by omega), (by omega)⟩⟩
  · skip
    by_cases h16 : x1.toInt = 1
    · skip
      rw [show x1 = 1 from ti_eq (h16.trans kz_1.symm)]
      have hlk17 := kz_1
      refine pe_iload_n (j := 1) (by decide +kernel) rfl ?_
      refine pz_if_lt (off := 8) (t := 9) (by decide +kernel) (by decide) rfl kz_1 (fun h18 => by omega) (fun h18 => ?_)
      refine pe_iload_n (j := 1) (by decide +kernel) rfl ?_
      refine pe_iconstv (n := 3) (v := 3) (by decide +kernel) (by decide +kernel) ?_
      refine pz_icmp_lt (off := 5) (t := 11) (by decide +kernel) (by decide) rfl kz_1 kz_3 (fun h19 => ?_) (fun h19 => by omega)
      refine pe_aload_n (j := 0) (by decide +kernel) rfl ?_
      refine pe_get (j := 16) (ci := 11) (n := 1) (by decide +kernel) (by decide +kernel) cd_o0 rfl ?_
      refine pe_iload_n (j := 1) (by decide +kernel) rfl ?_
      refine pz_aald (q := 107) (t := 5) (n := 3) (i := 1) (C := "RingVillage$Told") (by decide +kernel) cd_q21 rfl rfl kz_1 rfl (by decide +kernel) rfl ?_
      refine pe_aload_n (j := 0) (by decide +kernel) rfl ?_
      refine pe_get (j := 12) (ci := 11) (n := 0) (by decide +kernel) (by decide +kernel) cd_o0 rfl ?_
      have hr_f_21 := cf_21 hI
      refine pz_callV (j := 166) (mj := 71) (by decide +kernel) (cll_V (args := [.ref 1]) (n := 1) (by decide +kernel) rfl rfl cd_o107 (by decide +kernel) (Nat.le_of_ble_eq_true rfl) (Nat.le_of_ble_eq_true rfl)) (CM_71_1 hX hI) (fun q20a q20b q20c q20d hqq20 => ?_)
      obtain ⟨f21, A22, eq20, hIq20, hGq20, hFq20, hX0q20, hX1q20, kq20⟩ := hqq20
      cases eq20
      refine ⟨rfl, rfl, ?_⟩
      have hr_f21_1717 := cf_1717 hIq20
      show pmE pg X pg_tyl pg_cl (d + 2) 70 24 [.ref 0, .int 1] [] (cd f21 A22 R wr) _
      refine pe_aload_n (j := 0) (by decide +kernel) rfl ?_
      refine pe_get (j := 20) (ci := 11) (n := 2) (by decide +kernel) (by decide +kernel) cd_o0 rfl ?_
      refine pe_iload_n (j := 1) (by decide +kernel) rfl ?_
      refine pe_iconstv (n := 1) (v := 1) (by decide +kernel) (by decide +kernel) ?_
      refine cz_st22 (by decide +kernel) hIq20 kz_1 (by omega) (by omega) (fun A23 eA23 hIA23 => ?_)
      refine pe_iconstv (n := 1) (v := 1) (by decide +kernel) (by decide +kernel) ?_
      have hl24 := kz_1
      have hx25 : ((A23 22).getD 0 0).toInt = ((A 22).getD 0 0).toInt := (congrArg Int32.toInt (show (A23 22).getD 0 0 = ((A 22).getD 0 0) from (el_ne eA23 (by omega)).trans (el_fr ((hFq20 22 (by decide) (by decide) (by decide) (by decide) (by decide) (by decide) (by decide) (by decide) (by decide) (by decide) (by decide) (by decide)))))).trans rfl
      have hx26 : ((A23 22).getD 1 0).toInt = 1 := (congrArg Int32.toInt (show (A23 22).getD 1 0 = (vp_nar .boolean 1) from el_eq eA23 (by rw [(cl_22 hIq20)]; decide))).trans nar_1
      have hx27 : ((A23 22).getD 2 0).toInt = ((A 22).getD 2 0).toInt := (congrArg Int32.toInt (show (A23 22).getD 2 0 = ((A 22).getD 2 0) from (el_ne eA23 (by omega)).trans (el_fr ((hFq20 22 (by decide) (by decide) (by decide) (by decide) (by decide) (by decide) (by decide) (by decide) (by decide) (by decide) (by decide) (by decide)))))).trans rfl
      have hr_f_1397 := cf_1397 hI
      have hx28 : (f21 1397).toInt = (f 1397).toInt := (congrArg Int32.toInt (show f21 1397 = (f 1397) from (hGq20 1397 (by decide) (by decide) (by decide) (by decide) (by decide) (by decide) (by decide) (by decide) (by decide) (by decide) (by decide) (by decide) (by decide) (by decide)))).trans rfl
      have hr_f_2037 := cf_2037 hI
      have hx29 : (f21 2037).toInt = (f 2037).toInt := (congrArg Int32.toInt (show f21 2037 = (f 2037) from (hGq20 2037 (by decide) (by decide) (by decide) (by decide) (by decide) (by decide) (by decide) (by decide) (by decide) (by decide) (by decide) (by decide) (by decide) (by decide)))).trans rfl
      have hx30 : (f21 21).toInt = (f 21).toInt := (congrArg Int32.toInt (show f21 21 = (f 21) from (hGq20 21 (by decide) (by decide) (by decide) (by decide) (by decide) (by decide) (by decide) (by decide) (by decide) (by decide) (by decide) (by decide) (by decide) (by decide)))).trans rfl
      exact pe_iret (by decide +kernel) rfl rfl ⟨f21, A23, 1, rfl, hIA23, (fun k n1394 n1395 n1397 n1398 n1399 n1456 n1457 n1458 n1536 n1537 n1538 n1616 n1648 n1680 n1714 n1715 n1717 n1718 n1719 n1776 n1777 n1778 n1856 n1857 n1858 n1936 n1968 n2000 n2034 n2035 n2037 n2038 n2039 n2096 n2097 n2098 n2176 n2177 n2178 n2256 n2288 n2320 => (hGq20 k n1714 n1715 n1717 n1718 n1719 n1776 n1777 n1778 n1856 n1857 n1858 n1936 n1968 n2000)), (fun k n22 n90 n92 n93 n94 n95 n97 n98 n99 n100 n102 n104 n106 n110 n112 n113 n114 n115 n117 n118 n119 n120 n122 n124 n126 n130 n132 n133 n134 n135 n137 n138 n139 n140 n142 n144 n146 => (upa_fr eA23 n22).trans ((hFq20 k n110 n112 n113 n114 n115 n117 n118 n119 n120 n122 n124 n126))), Or.inl ⟨rfl, (by omega), (by omega)⟩⟩
    · skip
      by_cases h31 : x1.toInt = 2
      · skip
        rw [show x1 = 2 from ti_eq (h31.trans kz_2.symm)]
        have hlk32 := kz_2
        refine pe_iload_n (j := 1) (by decide +kernel) rfl ?_
        refine pz_if_lt (off := 8) (t := 9) (by decide +kernel) (by decide) rfl kz_2 (fun h33 => by omega) (fun h33 => ?_)
        refine pe_iload_n (j := 1) (by decide +kernel) rfl ?_
        refine pe_iconstv (n := 3) (v := 3) (by decide +kernel) (by decide +kernel) ?_
        refine pz_icmp_lt (off := 5) (t := 11) (by decide +kernel) (by decide) rfl kz_2 kz_3 (fun h34 => ?_) (fun h34 => by omega)
        refine pe_aload_n (j := 0) (by decide +kernel) rfl ?_
        refine pe_get (j := 16) (ci := 11) (n := 1) (by decide +kernel) (by decide +kernel) cd_o0 rfl ?_
        refine pe_iload_n (j := 1) (by decide +kernel) rfl ?_
        refine pz_aald (q := 127) (t := 5) (n := 3) (i := 2) (C := "RingVillage$Told") (by decide +kernel) cd_q21 rfl rfl kz_2 rfl (by decide +kernel) rfl ?_
        refine pe_aload_n (j := 0) (by decide +kernel) rfl ?_
        refine pe_get (j := 12) (ci := 11) (n := 0) (by decide +kernel) (by decide +kernel) cd_o0 rfl ?_
        have hr_f_21 := cf_21 hI
        refine pz_callV (j := 166) (mj := 71) (by decide +kernel) (cll_V (args := [.ref 1]) (n := 1) (by decide +kernel) rfl rfl cd_o127 (by decide +kernel) (Nat.le_of_ble_eq_true rfl) (Nat.le_of_ble_eq_true rfl)) (CM_71_2 hX hI) (fun q35a q35b q35c q35d hqq35 => ?_)
        obtain ⟨f36, A37, eq35, hIq35, hGq35, hFq35, hX0q35, hX1q35, kq35⟩ := hqq35
        cases eq35
        refine ⟨rfl, rfl, ?_⟩
        have hr_f36_2037 := cf_2037 hIq35
        show pmE pg X pg_tyl pg_cl (d + 2) 70 24 [.ref 0, .int 2] [] (cd f36 A37 R wr) _
        refine pe_aload_n (j := 0) (by decide +kernel) rfl ?_
        refine pe_get (j := 20) (ci := 11) (n := 2) (by decide +kernel) (by decide +kernel) cd_o0 rfl ?_
        refine pe_iload_n (j := 1) (by decide +kernel) rfl ?_
        refine pe_iconstv (n := 1) (v := 1) (by decide +kernel) (by decide +kernel) ?_
        refine cz_st22 (by decide +kernel) hIq35 kz_2 (by omega) (by omega) (fun A38 eA38 hIA38 => ?_)
        refine pe_iconstv (n := 1) (v := 1) (by decide +kernel) (by decide +kernel) ?_
        have hl39 := kz_1
        have hx40 : ((A38 22).getD 0 0).toInt = ((A 22).getD 0 0).toInt := (congrArg Int32.toInt (show (A38 22).getD 0 0 = ((A 22).getD 0 0) from (el_ne eA38 (by omega)).trans (el_fr ((hFq35 22 (by decide) (by decide) (by decide) (by decide) (by decide) (by decide) (by decide) (by decide) (by decide) (by decide) (by decide) (by decide)))))).trans rfl
        have hx41 : ((A38 22).getD 1 0).toInt = ((A 22).getD 1 0).toInt := (congrArg Int32.toInt (show (A38 22).getD 1 0 = ((A 22).getD 1 0) from (el_ne eA38 (by omega)).trans (el_fr ((hFq35 22 (by decide) (by decide) (by decide) (by decide) (by decide) (by decide) (by decide) (by decide) (by decide) (by decide) (by decide) (by decide)))))).trans rfl
        have hx42 : ((A38 22).getD 2 0).toInt = 1 := (congrArg Int32.toInt (show (A38 22).getD 2 0 = (vp_nar .boolean 1) from el_eq eA38 (by rw [(cl_22 hIq35)]; decide))).trans nar_1
        have hr_f_1397 := cf_1397 hI
        have hx43 : (f36 1397).toInt = (f 1397).toInt := (congrArg Int32.toInt (show f36 1397 = (f 1397) from (hGq35 1397 (by decide) (by decide) (by decide) (by decide) (by decide) (by decide) (by decide) (by decide) (by decide) (by decide) (by decide) (by decide) (by decide) (by decide)))).trans rfl
        have hr_f_1717 := cf_1717 hI
        have hx44 : (f36 1717).toInt = (f 1717).toInt := (congrArg Int32.toInt (show f36 1717 = (f 1717) from (hGq35 1717 (by decide) (by decide) (by decide) (by decide) (by decide) (by decide) (by decide) (by decide) (by decide) (by decide) (by decide) (by decide) (by decide) (by decide)))).trans rfl
        have hx45 : (f36 21).toInt = (f 21).toInt := (congrArg Int32.toInt (show f36 21 = (f 21) from (hGq35 21 (by decide) (by decide) (by decide) (by decide) (by decide) (by decide) (by decide) (by decide) (by decide) (by decide) (by decide) (by decide) (by decide) (by decide)))).trans rfl
        exact pe_iret (by decide +kernel) rfl rfl ⟨f36, A38, 1, rfl, hIA38, (fun k n1394 n1395 n1397 n1398 n1399 n1456 n1457 n1458 n1536 n1537 n1538 n1616 n1648 n1680 n1714 n1715 n1717 n1718 n1719 n1776 n1777 n1778 n1856 n1857 n1858 n1936 n1968 n2000 n2034 n2035 n2037 n2038 n2039 n2096 n2097 n2098 n2176 n2177 n2178 n2256 n2288 n2320 => (hGq35 k n2034 n2035 n2037 n2038 n2039 n2096 n2097 n2098 n2176 n2177 n2178 n2256 n2288 n2320)), (fun k n22 n90 n92 n93 n94 n95 n97 n98 n99 n100 n102 n104 n106 n110 n112 n113 n114 n115 n117 n118 n119 n120 n122 n124 n126 n130 n132 n133 n134 n135 n137 n138 n139 n140 n142 n144 n146 => (upa_fr eA38 n22).trans ((hFq35 k n130 n132 n133 n134 n135 n137 n138 n139 n140 n142 n144 n146))), Or.inl ⟨rfl, (by omega), (by omega)⟩⟩
      · skip
        refine pe_iload_n (j := 1) (by decide +kernel) rfl ?_
        have lw47 := zi_lo x1
        have uw47 := zi_hi x1
        refine pz_if_lt (off := 8) (t := 9) (by decide +kernel) (by decide) rfl rfl (fun h46 => ?_) (fun h46 => ?_)
        · skip
          refine pe_iconstv (n := 0) (v := 0) (by decide +kernel) (by decide +kernel) ?_
          have hl48 := kz_0
          have hr_f_1397 := cf_1397 hI
          have hr_f_1717 := cf_1717 hI
          have hr_f_2037 := cf_2037 hI
          have hr_f_21 := cf_21 hI
          exact pe_iret (by decide +kernel) rfl rfl ⟨f, A, 0, rfl, hI, (fun k n1394 n1395 n1397 n1398 n1399 n1456 n1457 n1458 n1536 n1537 n1538 n1616 n1648 n1680 n1714 n1715 n1717 n1718 n1719 n1776 n1777 n1778 n1856 n1857 n1858 n1936 n1968 n2000 n2034 n2035 n2037 n2038 n2039 n2096 n2097 n2098 n2176 n2177 n2178 n2256 n2288 n2320 => rfl), (fun k n22 n90 n92 n93 n94 n95 n97 n98 n99 n100 n102 n104 n106 n110 n112 n113 n114 n115 n117 n118 n119 n120 n122 n124 n126 n130 n132 n133 n134 n135 n137 n138 n139 n140 n142 n144 n146 => rfl), Or.inr (⟨rfl, (by omega), trivial⟩)⟩
        · skip
          refine pe_iload_n (j := 1) (by decide +kernel) rfl ?_
          refine pe_iconstv (n := 3) (v := 3) (by decide +kernel) (by decide +kernel) ?_
          refine pz_icmp_lt (off := 5) (t := 11) (by decide +kernel) (by decide) rfl rfl kz_3 (fun h49 => by omega) (fun h49 => ?_)
          refine pe_iconstv (n := 0) (v := 0) (by decide +kernel) (by decide +kernel) ?_
          have hl50 := kz_0
          have hr_f_1397 := cf_1397 hI
          have hr_f_1717 := cf_1717 hI
          have hr_f_2037 := cf_2037 hI
          have hr_f_21 := cf_21 hI
          exact pe_iret (by decide +kernel) rfl rfl ⟨f, A, 0, rfl, hI, (fun k n1394 n1395 n1397 n1398 n1399 n1456 n1457 n1458 n1536 n1537 n1538 n1616 n1648 n1680 n1714 n1715 n1717 n1718 n1719 n1776 n1777 n1778 n1856 n1857 n1858 n1936 n1968 n2000 n2034 n2035 n2037 n2038 n2039 n2096 n2097 n2098 n2176 n2177 n2178 n2256 n2288 n2320 => rfl), (fun k n22 n90 n92 n93 n94 n95 n97 n98 n99 n100 n102 n104 n106 n110 n112 n113 n114 n115 n117 n118 n119 n120 n122 n124 n126 n130 n132 n133 n134 n135 n137 n138 n139 n140 n142 n144 n146 => rfl), Or.inr (⟨rfl, (by omega), trivial⟩)⟩
set_option maxRecDepth 100000 in
set_option maxHeartbeats 8000000 in
theorem CM_72 {X : pm_X} {d : Nat} {wr : pm_W} {f : Nat → Int32} {A : Nat → List Int32} {R : Nat → Value} {x1 : Int32} (hX : XO X) (hI : CI f A R) : pmE pg X pg_tyl pg_cl (d + 2) 72 0 (pm_ent (pm_max pg 72) [.ref 0, .int x1]) [] (cd f A R wr) (fun q => ∃ (f' : Nat → Int32) (A' : Nat → List Int32) (r : Int32), q = (some (.int r), cd f' A' R wr, 0, 0) ∧ CI f' A' R ∧ (∀ k : Nat, k ≠ 18 → k ≠ 19 → k ≠ 21 → k ≠ 22 → k ≠ 23 → k ≠ 80 → k ≠ 81 → k ≠ 82 → k ≠ 160 → k ≠ 161 → k ≠ 162 → k ≠ 240 → k ≠ 272 → k ≠ 304 → f' k = f k) ∧ (∀ k : Nat, k ≠ 4 → k ≠ 6 → k ≠ 7 → k ≠ 8 → k ≠ 9 → k ≠ 11 → k ≠ 12 → k ≠ 13 → k ≠ 14 → k ≠ 16 → k ≠ 18 → k ≠ 20 → A' k = A k) ∧ ((r = 1 ∧ ((x1.toInt = 0 ∧ ((A 22).getD 0 0).toInt ≠ 0 ∧ (f' 21).toInt = (f 1397).toInt ∧ (f' 1397).toInt = (f 1397).toInt ∧ (f' 1717).toInt = (f 1717).toInt ∧ (f' 2037).toInt = (f 2037).toInt ∧ ((A' 22).getD 0 0).toInt = ((A 22).getD 0 0).toInt ∧ ((A' 22).getD 1 0).toInt = ((A 22).getD 1 0).toInt ∧ ((A' 22).getD 2 0).toInt = ((A 22).getD 2 0).toInt) ∨ (x1.toInt = 1 ∧ ((A 22).getD 1 0).toInt ≠ 0 ∧ (f' 21).toInt = (f 1717).toInt ∧ (f' 1397).toInt = (f 1397).toInt ∧ (f' 1717).toInt = (f 1717).toInt ∧ (f' 2037).toInt = (f 2037).toInt ∧ ((A' 22).getD 0 0).toInt = ((A 22).getD 0 0).toInt ∧ ((A' 22).getD 1 0).toInt = ((A 22).getD 1 0).toInt ∧ ((A' 22).getD 2 0).toInt = ((A 22).getD 2 0).toInt) ∨ (x1.toInt = 2 ∧ ((A 22).getD 2 0).toInt ≠ 0 ∧ (f' 21).toInt = (f 2037).toInt ∧ (f' 1397).toInt = (f 1397).toInt ∧ (f' 1717).toInt = (f 1717).toInt ∧ (f' 2037).toInt = (f 2037).toInt ∧ ((A' 22).getD 0 0).toInt = ((A 22).getD 0 0).toInt ∧ ((A' 22).getD 1 0).toInt = ((A 22).getD 1 0).toInt ∧ ((A' 22).getD 2 0).toInt = ((A 22).getD 2 0).toInt)) ∧ (0 ≤ x1.toInt ∧ x1.toInt ≤ 2)) ∨ (r = 0 ∧ (((x1.toInt < 0 ∨ 2 < x1.toInt) ∨ (x1.toInt = 0 ∧ ((A 22).getD 0 0).toInt = 0) ∨ (x1.toInt = 1 ∧ ((A 22).getD 1 0).toInt = 0) ∨ (x1.toInt = 2 ∧ ((A 22).getD 2 0).toInt = 0)) ∧ (f' 21).toInt = (f 21).toInt ∧ (f' 1397).toInt = (f 1397).toInt ∧ (f' 1717).toInt = (f 1717).toInt ∧ (f' 2037).toInt = (f 2037).toInt ∧ ((A' 22).getD 0 0).toInt = ((A 22).getD 0 0).toInt ∧ ((A' 22).getD 1 0).toInt = ((A 22).getD 1 0).toInt ∧ ((A' 22).getD 2 0).toInt = ((A 22).getD 2 0).toInt) ∧ True))) := by
  show pmE pg X pg_tyl pg_cl (d + 2) 72 0 [.ref 0, .int x1] [] (cd f A R wr) _
  by_cases h1 : x1.toInt = 0
  · skip
    rw [show x1 = 0 from ti_eq (h1.trans kz_0.symm)]
    have hlk2 := kz_0
    refine pe_iload_n (j := 1) (by decide +kernel) rfl ?_
    refine pz_if_lt (off := 17) (t := 18) (by decide +kernel) (by decide) rfl kz_0 (fun h3 => by omega) (fun h3 => ?_)
    refine pe_iload_n (j := 1) (by decide +kernel) rfl ?_
    refine pe_iconstv (n := 3) (v := 3) (by decide +kernel) (by decide +kernel) ?_
    refine pz_icmp_ge (off := 12) (t := 18) (by decide +kernel) (by decide) rfl kz_0 kz_3 (fun h4 => by omega) (fun h4 => ?_)
    refine pe_aload_n (j := 0) (by decide +kernel) rfl ?_
    refine pe_get (j := 20) (ci := 11) (n := 2) (by decide +kernel) (by decide +kernel) cd_o0 rfl ?_
    refine pe_iload_n (j := 1) (by decide +kernel) rfl ?_
    refine pz_zald (by decide +kernel) cd_a22 (cl_22 hI) kz_0 (by omega) (by omega) (fun v5 ev5 => ?_)
    have rv5 : 0 ≤ v5.toInt ∧ v5.toInt ≤ 1 := ct_22 hI ev5
    have hvv5 : v5.toInt = ((A 22).getD 0 0).toInt := (congrArg Int32.toInt (ev5.trans (show (A 22).getD 0 0 = ((A 22).getD 0 0) from rfl))).trans rfl
    refine pz_if_ne (off := 5) (t := 20) (by decide +kernel) (by decide) rfl rfl (fun h6 => ?_) (fun h6 => ?_)
    · skip
      refine pe_aload_n (j := 0) (by decide +kernel) rfl ?_
      refine pe_get (j := 12) (ci := 11) (n := 0) (by decide +kernel) (by decide +kernel) cd_o0 rfl ?_
      refine pe_aload_n (j := 0) (by decide +kernel) rfl ?_
      refine pe_get (j := 16) (ci := 11) (n := 1) (by decide +kernel) (by decide +kernel) cd_o0 rfl ?_
      refine pe_iload_n (j := 1) (by decide +kernel) rfl ?_
      refine pz_aald (q := 87) (t := 5) (n := 3) (i := 0) (C := "RingVillage$Told") (by decide +kernel) cd_q21 rfl rfl kz_0 rfl (by decide +kernel) rfl ?_
      have hr_f_1397 := cf_1397 hI
      refine pz_callV (j := 166) (mj := 71) (by decide +kernel) (cll_V (args := [.ref 87]) (n := 1) (by decide +kernel) rfl rfl cd_o1 (by decide +kernel) (Nat.le_of_ble_eq_true rfl) (Nat.le_of_ble_eq_true rfl)) (CM_71_3 hX hI) (fun q7a q7b q7c q7d hqq7 => ?_)
      obtain ⟨f8, A9, eq7, hIq7, hGq7, hFq7, hX0q7, hX1q7, kq7⟩ := hqq7
      cases eq7
      refine ⟨rfl, rfl, ?_⟩
      have hr_f8_21 := cf_21 hIq7
      show pmE pg X pg_tyl pg_cl (d + 2) 72 33 [.ref 0, .int 0] [] (cd f8 A9 R wr) _
      refine pe_iconstv (n := 1) (v := 1) (by decide +kernel) (by decide +kernel) ?_
      have hl10 := kz_1
      have hx11 : ((A9 22).getD 0 0).toInt = ((A 22).getD 0 0).toInt := (congrArg Int32.toInt (show (A9 22).getD 0 0 = ((A 22).getD 0 0) from el_fr ((hFq7 22 (by decide) (by decide) (by decide) (by decide) (by decide) (by decide) (by decide) (by decide) (by decide) (by decide) (by decide) (by decide))))).trans rfl
      have hx12 : ((A9 22).getD 1 0).toInt = ((A 22).getD 1 0).toInt := (congrArg Int32.toInt (show (A9 22).getD 1 0 = ((A 22).getD 1 0) from el_fr ((hFq7 22 (by decide) (by decide) (by decide) (by decide) (by decide) (by decide) (by decide) (by decide) (by decide) (by decide) (by decide) (by decide))))).trans rfl
      have hx13 : ((A9 22).getD 2 0).toInt = ((A 22).getD 2 0).toInt := (congrArg Int32.toInt (show (A9 22).getD 2 0 = ((A 22).getD 2 0) from el_fr ((hFq7 22 (by decide) (by decide) (by decide) (by decide) (by decide) (by decide) (by decide) (by decide) (by decide) (by decide) (by decide) (by decide))))).trans rfl
      have hx14 : (f8 1397).toInt = (f 1397).toInt := (congrArg Int32.toInt (show f8 1397 = (f 1397) from (hGq7 1397 (by decide) (by decide) (by decide) (by decide) (by decide) (by decide) (by decide) (by decide) (by decide) (by decide) (by decide) (by decide) (by decide) (by decide)))).trans rfl
      have hr_f_1717 := cf_1717 hI
      have hx15 : (f8 1717).toInt = (f 1717).toInt := (congrArg Int32.toInt (show f8 1717 = (f 1717) from (hGq7 1717 (by decide) (by decide) (by decide) (by decide) (by decide) (by decide) (by decide) (by decide) (by decide) (by decide) (by decide) (by decide) (by decide) (by decide)))).trans rfl
      have hr_f_2037 := cf_2037 hI
      have hx16 : (f8 2037).toInt = (f 2037).toInt := (congrArg Int32.toInt (show f8 2037 = (f 2037) from (hGq7 2037 (by decide) (by decide) (by decide) (by decide) (by decide) (by decide) (by decide) (by decide) (by decide) (by decide) (by decide) (by decide) (by decide) (by decide)))).trans rfl
      exact pe_iret (by decide +kernel) rfl rfl ⟨f8, A9, 1, rfl, hIq7, (fun k n18 n19 n21 n22 n23 n80 n81 n82 n160 n161 n162 n240 n272 n304 => (hGq7 k n18 n19 n21 n22 n23 n80 n81 n82 n160 n161 n162 n240 n272 n304)), (fun k n4 n6 n7 n8 n9 n11 n12 n13 n14 n16 n18 n20 => (hFq7 k n4 n6 n7 n8 n9 n11 n12 n13 n14 n16 n18 n20)), Or.inl ⟨rfl, (by omega), (by omega)⟩⟩
    · skip
      refine pe_iconstv (n := 0) (v := 0) (by decide +kernel) (by decide +kernel) ?_
      have hl17 := kz_0
      have hr_f_1397 := cf_1397 hI
      have hr_f_1717 := cf_1717 hI
      have hr_f_2037 := cf_2037 hI
      have hr_f_21 := cf_21 hI
      exact pe_iret (by decide +kernel) rfl rfl ⟨f, A, 0, rfl, hI, (fun k n18 n19 n21 n22 n23 n80 n81 n82 n160 n161 n162 n240 n272 n304 => rfl), (fun k n4 n6 n7 n8 n9 n11 n12 n13 n14 n16 n18 n20 => rfl), Or.inr (⟨rfl, (by omega), trivial⟩)⟩
  · skip
    by_cases h18 : x1.toInt = 1
    · skip
      rw [show x1 = 1 from ti_eq (h18.trans kz_1.symm)]
      have hlk19 := kz_1
      refine pe_iload_n (j := 1) (by decide +kernel) rfl ?_
      refine pz_if_lt (off := 17) (t := 18) (by decide +kernel) (by decide) rfl kz_1 (fun h20 => by omega) (fun h20 => ?_)
      refine pe_iload_n (j := 1) (by decide +kernel) rfl ?_
      refine pe_iconstv (n := 3) (v := 3) (by decide +kernel) (by decide +kernel) ?_
      refine pz_icmp_ge (off := 12) (t := 18) (by decide +kernel) (by decide) rfl kz_1 kz_3 (fun h21 => by omega) (fun h21 => ?_)
      refine pe_aload_n (j := 0) (by decide +kernel) rfl ?_
      refine pe_get (j := 20) (ci := 11) (n := 2) (by decide +kernel) (by decide +kernel) cd_o0 rfl ?_
      refine pe_iload_n (j := 1) (by decide +kernel) rfl ?_
      refine pz_zald (by decide +kernel) cd_a22 (cl_22 hI) kz_1 (by omega) (by omega) (fun v22 ev22 => ?_)
      have rv22 : 0 ≤ v22.toInt ∧ v22.toInt ≤ 1 := ct_22 hI ev22
      have hvv22 : v22.toInt = ((A 22).getD 1 0).toInt := (congrArg Int32.toInt (ev22.trans (show (A 22).getD 1 0 = ((A 22).getD 1 0) from rfl))).trans rfl
      refine pz_if_ne (off := 5) (t := 20) (by decide +kernel) (by decide) rfl rfl (fun h23 => ?_) (fun h23 => ?_)
      · skip
        refine pe_aload_n (j := 0) (by decide +kernel) rfl ?_
        refine pe_get (j := 12) (ci := 11) (n := 0) (by decide +kernel) (by decide +kernel) cd_o0 rfl ?_
        refine pe_aload_n (j := 0) (by decide +kernel) rfl ?_
        refine pe_get (j := 16) (ci := 11) (n := 1) (by decide +kernel) (by decide +kernel) cd_o0 rfl ?_
        refine pe_iload_n (j := 1) (by decide +kernel) rfl ?_
        refine pz_aald (q := 107) (t := 5) (n := 3) (i := 1) (C := "RingVillage$Told") (by decide +kernel) cd_q21 rfl rfl kz_1 rfl (by decide +kernel) rfl ?_
        have hr_f_1717 := cf_1717 hI
        refine pz_callV (j := 166) (mj := 71) (by decide +kernel) (cll_V (args := [.ref 107]) (n := 1) (by decide +kernel) rfl rfl cd_o1 (by decide +kernel) (Nat.le_of_ble_eq_true rfl) (Nat.le_of_ble_eq_true rfl)) (CM_71_4 hX hI) (fun q24a q24b q24c q24d hqq24 => ?_)
        obtain ⟨f25, A26, eq24, hIq24, hGq24, hFq24, hX0q24, hX1q24, kq24⟩ := hqq24
        cases eq24
        refine ⟨rfl, rfl, ?_⟩
        have hr_f25_21 := cf_21 hIq24
        show pmE pg X pg_tyl pg_cl (d + 2) 72 33 [.ref 0, .int 1] [] (cd f25 A26 R wr) _
        refine pe_iconstv (n := 1) (v := 1) (by decide +kernel) (by decide +kernel) ?_
        have hl27 := kz_1
        have hx28 : ((A26 22).getD 0 0).toInt = ((A 22).getD 0 0).toInt := (congrArg Int32.toInt (show (A26 22).getD 0 0 = ((A 22).getD 0 0) from el_fr ((hFq24 22 (by decide) (by decide) (by decide) (by decide) (by decide) (by decide) (by decide) (by decide) (by decide) (by decide) (by decide) (by decide))))).trans rfl
        have hx29 : ((A26 22).getD 1 0).toInt = ((A 22).getD 1 0).toInt := (congrArg Int32.toInt (show (A26 22).getD 1 0 = ((A 22).getD 1 0) from el_fr ((hFq24 22 (by decide) (by decide) (by decide) (by decide) (by decide) (by decide) (by decide) (by decide) (by decide) (by decide) (by decide) (by decide))))).trans rfl
        have hx30 : ((A26 22).getD 2 0).toInt = ((A 22).getD 2 0).toInt := (congrArg Int32.toInt (show (A26 22).getD 2 0 = ((A 22).getD 2 0) from el_fr ((hFq24 22 (by decide) (by decide) (by decide) (by decide) (by decide) (by decide) (by decide) (by decide) (by decide) (by decide) (by decide) (by decide))))).trans rfl
        have hr_f_1397 := cf_1397 hI
        have hx31 : (f25 1397).toInt = (f 1397).toInt := (congrArg Int32.toInt (show f25 1397 = (f 1397) from (hGq24 1397 (by decide) (by decide) (by decide) (by decide) (by decide) (by decide) (by decide) (by decide) (by decide) (by decide) (by decide) (by decide) (by decide) (by decide)))).trans rfl
        have hx32 : (f25 1717).toInt = (f 1717).toInt := (congrArg Int32.toInt (show f25 1717 = (f 1717) from (hGq24 1717 (by decide) (by decide) (by decide) (by decide) (by decide) (by decide) (by decide) (by decide) (by decide) (by decide) (by decide) (by decide) (by decide) (by decide)))).trans rfl
        have hr_f_2037 := cf_2037 hI
        have hx33 : (f25 2037).toInt = (f 2037).toInt := (congrArg Int32.toInt (show f25 2037 = (f 2037) from (hGq24 2037 (by decide) (by decide) (by decide) (by decide) (by decide) (by decide) (by decide) (by decide) (by decide) (by decide) (by decide) (by decide) (by decide) (by decide)))).trans rfl
        exact pe_iret (by decide +kernel) rfl rfl ⟨f25, A26, 1, rfl, hIq24, (fun k n18 n19 n21 n22 n23 n80 n81 n82 n160 n161 n162 n240 n272 n304 => (hGq24 k n18 n19 n21 n22 n23 n80 n81 n82 n160 n161 n162 n240 n272 n304)), (fun k n4 n6 n7 n8 n9 n11 n12 n13 n14 n16 n18 n20 => (hFq24 k n4 n6 n7 n8 n9 n11 n12 n13 n14 n16 n18 n20)), Or.inl ⟨rfl, (by omega), (by omega)⟩⟩
      · skip
        refine pe_iconstv (n := 0) (v := 0) (by decide +kernel) (by decide +kernel) ?_
        have hl34 := kz_0
        have hr_f_1397 := cf_1397 hI
        have hr_f_1717 := cf_1717 hI
        have hr_f_2037 := cf_2037 hI
        have hr_f_21 := cf_21 hI
        exact pe_iret (by decide +kernel) rfl rfl ⟨f, A, 0, rfl, hI, (fun k n18 n19 n21 n22 n23 n80 n81 n82 n160 n161 n162 n240 n272 n304 => rfl), (fun k n4 n6 n7 n8 n9 n11 n12 n13 n14 n16 n18 n20 => rfl), Or.inr (⟨rfl, (by omega), trivial⟩)⟩
    · skip
      by_cases h35 : x1.toInt = 2
      · skip
        rw [show x1 = 2 from ti_eq (h35.trans kz_2.symm)]
        have hlk36 := kz_2
        refine pe_iload_n (j := 1) (by decide +kernel) rfl ?_
        refine pz_if_lt (off := 17) (t := 18) (by decide +kernel) (by decide) rfl kz_2 (fun h37 => by omega) (fun h37 => ?_)
        refine pe_iload_n (j := 1) (by decide +kernel) rfl ?_
        refine pe_iconstv (n := 3) (v := 3) (by decide +kernel) (by decide +kernel) ?_
        refine pz_icmp_ge (off := 12) (t := 18) (by decide +kernel) (by decide) rfl kz_2 kz_3 (fun h38 => by omega) (fun h38 => ?_)
        refine pe_aload_n (j := 0) (by decide +kernel) rfl ?_
        refine pe_get (j := 20) (ci := 11) (n := 2) (by decide +kernel) (by decide +kernel) cd_o0 rfl ?_
        refine pe_iload_n (j := 1) (by decide +kernel) rfl ?_
        refine pz_zald (by decide +kernel) cd_a22 (cl_22 hI) kz_2 (by omega) (by omega) (fun v39 ev39 => ?_)
        have rv39 : 0 ≤ v39.toInt ∧ v39.toInt ≤ 1 := ct_22 hI ev39
        have hvv39 : v39.toInt = ((A 22).getD 2 0).toInt := (congrArg Int32.toInt (ev39.trans (show (A 22).getD 2 0 = ((A 22).getD 2 0) from rfl))).trans rfl
        refine pz_if_ne (off := 5) (t := 20) (by decide +kernel) (by decide) rfl rfl (fun h40 => ?_) (fun h40 => ?_)
        · skip
          refine pe_aload_n (j := 0) (by decide +kernel) rfl ?_
          refine pe_get (j := 12) (ci := 11) (n := 0) (by decide +kernel) (by decide +kernel) cd_o0 rfl ?_
          refine pe_aload_n (j := 0) (by decide +kernel) rfl ?_
          refine pe_get (j := 16) (ci := 11) (n := 1) (by decide +kernel) (by decide +kernel) cd_o0 rfl ?_
          refine pe_iload_n (j := 1) (by decide +kernel) rfl ?_
          refine pz_aald (q := 127) (t := 5) (n := 3) (i := 2) (C := "RingVillage$Told") (by decide +kernel) cd_q21 rfl rfl kz_2 rfl (by decide +kernel) rfl ?_
          have hr_f_2037 := cf_2037 hI
          refine pz_callV (j := 166) (mj := 71) (by decide +kernel) (cll_V (args := [.ref 127]) (n := 1) (by decide +kernel) rfl rfl cd_o1 (by decide +kernel) (Nat.le_of_ble_eq_true rfl) (Nat.le_of_ble_eq_true rfl)) (CM_71_5 hX hI) (fun q41a q41b q41c q41d hqq41 => ?_)
          obtain ⟨f42, A43, eq41, hIq41, hGq41, hFq41, hX0q41, hX1q41, kq41⟩ := hqq41
          cases eq41
          refine ⟨rfl, rfl, ?_⟩
          have hr_f42_21 := cf_21 hIq41
          show pmE pg X pg_tyl pg_cl (d + 2) 72 33 [.ref 0, .int 2] [] (cd f42 A43 R wr) _
          refine pe_iconstv (n := 1) (v := 1) (by decide +kernel) (by decide +kernel) ?_
          have hl44 := kz_1
          have hx45 : ((A43 22).getD 0 0).toInt = ((A 22).getD 0 0).toInt := (congrArg Int32.toInt (show (A43 22).getD 0 0 = ((A 22).getD 0 0) from el_fr ((hFq41 22 (by decide) (by decide) (by decide) (by decide) (by decide) (by decide) (by decide) (by decide) (by decide) (by decide) (by decide) (by decide))))).trans rfl
          have hx46 : ((A43 22).getD 1 0).toInt = ((A 22).getD 1 0).toInt := (congrArg Int32.toInt (show (A43 22).getD 1 0 = ((A 22).getD 1 0) from el_fr ((hFq41 22 (by decide) (by decide) (by decide) (by decide) (by decide) (by decide) (by decide) (by decide) (by decide) (by decide) (by decide) (by decide))))).trans rfl
          have hx47 : ((A43 22).getD 2 0).toInt = ((A 22).getD 2 0).toInt := (congrArg Int32.toInt (show (A43 22).getD 2 0 = ((A 22).getD 2 0) from el_fr ((hFq41 22 (by decide) (by decide) (by decide) (by decide) (by decide) (by decide) (by decide) (by decide) (by decide) (by decide) (by decide) (by decide))))).trans rfl
          have hr_f_1397 := cf_1397 hI
          have hx48 : (f42 1397).toInt = (f 1397).toInt := (congrArg Int32.toInt (show f42 1397 = (f 1397) from (hGq41 1397 (by decide) (by decide) (by decide) (by decide) (by decide) (by decide) (by decide) (by decide) (by decide) (by decide) (by decide) (by decide) (by decide) (by decide)))).trans rfl
          have hr_f_1717 := cf_1717 hI
          have hx49 : (f42 1717).toInt = (f 1717).toInt := (congrArg Int32.toInt (show f42 1717 = (f 1717) from (hGq41 1717 (by decide) (by decide) (by decide) (by decide) (by decide) (by decide) (by decide) (by decide) (by decide) (by decide) (by decide) (by decide) (by decide) (by decide)))).trans rfl
          have hx50 : (f42 2037).toInt = (f 2037).toInt := (congrArg Int32.toInt (show f42 2037 = (f 2037) from (hGq41 2037 (by decide) (by decide) (by decide) (by decide) (by decide) (by decide) (by decide) (by decide) (by decide) (by decide) (by decide) (by decide) (by decide) (by decide)))).trans rfl
          exact pe_iret (by decide +kernel) rfl rfl ⟨f42, A43, 1, rfl, hIq41, (fun k n18 n19 n21 n22 n23 n80 n81 n82 n160 n161 n162 n240 n272 n304 => (hGq41 k n18 n19 n21 n22 n23 n80 n81 n82 n160 n161 n162 n240 n272 n304)), (fun k n4 n6 n7 n8 n9 n11 n12 n13 n14 n16 n18 n20 => (hFq41 k n4 n6 n7 n8 n9 n11 n12 n13 n14 n16 n18 n20)), Or.inl ⟨rfl, (by omega), (by omega)⟩⟩
        · skip
          refine pe_iconstv (n := 0) (v := 0) (by decide +kernel) (by decide +kernel) ?_
          have hl51 := kz_0
          have hr_f_1397 := cf_1397 hI
          have hr_f_1717 := cf_1717 hI
          have hr_f_2037 := cf_2037 hI
          have hr_f_21 := cf_21 hI
          exact pe_iret (by decide +kernel) rfl rfl ⟨f, A, 0, rfl, hI, (fun k n18 n19 n21 n22 n23 n80 n81 n82 n160 n161 n162 n240 n272 n304 => rfl), (fun k n4 n6 n7 n8 n9 n11 n12 n13 n14 n16 n18 n20 => rfl), Or.inr (⟨rfl, (by omega), trivial⟩)⟩
      · skip
        refine pe_iload_n (j := 1) (by decide +kernel) rfl ?_
        have lw53 := zi_lo x1
        have uw53 := zi_hi x1
        refine pz_if_lt (off := 17) (t := 18) (by decide +kernel) (by decide) rfl rfl (fun h52 => ?_) (fun h52 => ?_)
        · skip
          refine pe_iconstv (n := 0) (v := 0) (by decide +kernel) (by decide +kernel) ?_
          have hl54 := kz_0
          have hr_f_1397 := cf_1397 hI
          have hr_f_1717 := cf_1717 hI
          have hr_f_2037 := cf_2037 hI
          have hr_f_21 := cf_21 hI
          exact pe_iret (by decide +kernel) rfl rfl ⟨f, A, 0, rfl, hI, (fun k n18 n19 n21 n22 n23 n80 n81 n82 n160 n161 n162 n240 n272 n304 => rfl), (fun k n4 n6 n7 n8 n9 n11 n12 n13 n14 n16 n18 n20 => rfl), Or.inr (⟨rfl, (by omega), trivial⟩)⟩
        · skip
          refine pe_iload_n (j := 1) (by decide +kernel) rfl ?_
          refine pe_iconstv (n := 3) (v := 3) (by decide +kernel) (by decide +kernel) ?_
          refine pz_icmp_ge (off := 12) (t := 18) (by decide +kernel) (by decide) rfl rfl kz_3 (fun h55 => ?_) (fun h55 => by omega)
          refine pe_iconstv (n := 0) (v := 0) (by decide +kernel) (by decide +kernel) ?_
          have hl56 := kz_0
          have hr_f_1397 := cf_1397 hI
          have hr_f_1717 := cf_1717 hI
          have hr_f_2037 := cf_2037 hI
          have hr_f_21 := cf_21 hI
          exact pe_iret (by decide +kernel) rfl rfl ⟨f, A, 0, rfl, hI, (fun k n18 n19 n21 n22 n23 n80 n81 n82 n160 n161 n162 n240 n272 n304 => rfl), (fun k n4 n6 n7 n8 n9 n11 n12 n13 n14 n16 n18 n20 => rfl), Or.inr (⟨rfl, (by omega), trivial⟩)⟩
set_option maxRecDepth 100000 in
set_option maxHeartbeats 8000000 in
theorem CL_28_5 {X : pm_X} {d : Nat} {wr : pm_W} {Q : pm_R → Prop} {f0 : Nat → Int32} {A : Nat → List Int32} {R : Nat → Value} (hX : XO X) (hR4 : R 4 = .ref 4) (k_86_0 : ∀ (f' : Nat → Int32), CI f' A R → (∀ k : Nat, k ≠ 373 → k ≠ 376 → f' k = f0 k) → pmE pg X pg_tyl pg_cl (d + 1) 28 86 [.ref 23] [] (cd f' A R wr) Q) : ∀ (m : Nat) (f : Nat → Int32), CI f A R → (∀ k : Nat, k ≠ 373 → k ≠ 376 → f k = f0 k) → 600 - (f 373).toInt < (m : Int) → pmE pg X pg_tyl pg_cl (d + 1) 28 5 [.ref 23] [] (cd f A R wr) Q := by
  intro m
  induction m with
  | zero =>
    intro f hI hG hm
    exfalso
    have h := cf_373 hI
    omega
  | succ m ih =>
    intro f hI hG hm
    refine pe_aload_n (j := 0) (by decide +kernel) rfl ?_
    refine pe_get (j := 47) (ci := 4) (n := 5) (by decide +kernel) (by decide +kernel) cd_o23 rfl ?_
    have hr_f_373 := cf_373 hI
    refine pe_aload_n (j := 0) (by decide +kernel) rfl ?_
    refine pe_get (j := 43) (ci := 4) (n := 4) (by decide +kernel) (by decide +kernel) cd_o23 rfl ?_
    have hr_f_372 := cf_372 hI
    refine pz_icmp_ge (off := 73) (t := 86) (by decide +kernel) (by decide) rfl rfl rfl (fun h1 => ?_) (fun h1 => ?_)
    · skip
      exact k_86_0 f hI (fun k n373 n376 => (hG k n373 n376))
    · skip
      refine pe_aload_n (j := 0) (by decide +kernel) rfl ?_
      refine pe_aload_n (j := 0) (by decide +kernel) rfl ?_
      refine pe_get (j := 47) (ci := 4) (n := 5) (by decide +kernel) (by decide +kernel) cd_o23 rfl ?_
      refine pi_V (j := 184) (mj := 24) (by decide +kernel) (cll_V (args := [.int (f 373)]) (n := 1) (by decide +kernel) rfl rfl cd_o23 (by decide +kernel) (Nat.le_of_ble_eq_true rfl) (Nat.le_of_ble_eq_true rfl)) ?_
      show pmE pg X pg_tyl pg_cl (d) 24 0 [.ref 23, .int (f 373)] [] (cd f A R wr) _
      refine pe_iload_n (j := 1) (by decide +kernel) rfl ?_
      refine pz_if_lt (off := 20) (t := 21) (by decide +kernel) (by decide) rfl rfl (fun h2 => by omega) (fun h2 => ?_)
      refine pe_iload_n (j := 1) (by decide +kernel) rfl ?_
      refine pe_aload_n (j := 0) (by decide +kernel) rfl ?_
      refine pe_get (j := 43) (ci := 4) (n := 4) (by decide +kernel) (by decide +kernel) cd_o23 rfl ?_
      refine pz_icmp_ge (off := 12) (t := 21) (by decide +kernel) (by decide) rfl rfl rfl (fun h3 => ?_) (fun h3 => ?_)
      · skip
        refine pe_iconstv (n := (-1)) (v := (-1)) (by decide +kernel) (by decide +kernel) ?_
        refine pe_iret (by decide +kernel) rfl rfl ⟨rfl, rfl, ?_⟩
        show pmE pg X pg_tyl pg_cl (d + 1) 28 24 [.ref 23] [.int (-1)] (cd f A R wr) _
        refine pi_S (j := 197) (mj := 27) (by decide +kernel) (by decide +kernel) rfl ?_
        show pmE pg X pg_tyl pg_cl (d) 27 0 [.int (-1)] [] (cd f A R wr) _
        refine pe_iload_n (j := 0) (by decide +kernel) rfl ?_
        refine pe_bipushv (n := 48) (v := 48) (by decide +kernel) (by decide +kernel) ?_
        refine pz_icmp_lt (off := 13) (t := 16) (by decide +kernel) (by decide) rfl kz_m1 kz_48 (fun h4 => ?_) (fun h4 => by omega)
        refine pe_iconstv (n := 0) (v := 0) (by decide +kernel) (by decide +kernel) ?_
        refine pe_iret (by decide +kernel) rfl rfl ⟨rfl, rfl, ?_⟩
        show pmE pg X pg_tyl pg_cl (d + 1) 28 27 [.ref 23] [.int 0] (cd f A R wr) _
        refine pz_if_eq (off := 59) (t := 86) (by decide +kernel) (by decide) rfl kz_0 (fun h5 => ?_) (fun h5 => by omega)
        exact k_86_0 f hI (fun k n373 n376 => (hG k n373 n376))
      · skip
        refine pe_aload_n (j := 0) (by decide +kernel) rfl ?_
        refine pe_get (j := 29) (ci := 4) (n := 3) (by decide +kernel) (by decide +kernel) cd_o23 rfl ?_
        refine pe_topV (v := .ref 4) (hR4) ?_
        refine pe_iload_n (j := 1) (by decide +kernel) rfl ?_
        refine pz_bald (by decide +kernel) cd_a4 (cl_4 hI) rfl (by omega) (by omega) (fun v6 ev6 => ?_)
        have rv6 : (-128) ≤ v6.toInt ∧ v6.toInt ≤ 127 := ct_4 hI ev6
        refine pe_goto (off := 4) (t := 22) (by decide +kernel) (by decide) rfl ?_
        refine pe_iret (by decide +kernel) rfl rfl ⟨rfl, rfl, ?_⟩
        show pmE pg X pg_tyl pg_cl (d + 1) 28 24 [.ref 23] [.int v6] (cd f A R wr) _
        refine pi_S (j := 197) (mj := 27) (by decide +kernel) (by decide +kernel) rfl ?_
        show pmE pg X pg_tyl pg_cl (d) 27 0 [.int v6] [] (cd f A R wr) _
        refine pe_iload_n (j := 0) (by decide +kernel) rfl ?_
        refine pe_bipushv (n := 48) (v := 48) (by decide +kernel) (by decide +kernel) ?_
        refine pz_icmp_lt (off := 13) (t := 16) (by decide +kernel) (by decide) rfl rfl kz_48 (fun h7 => ?_) (fun h7 => ?_)
        · skip
          refine pe_iconstv (n := 0) (v := 0) (by decide +kernel) (by decide +kernel) ?_
          refine pe_iret (by decide +kernel) rfl rfl ⟨rfl, rfl, ?_⟩
          show pmE pg X pg_tyl pg_cl (d + 1) 28 27 [.ref 23] [.int 0] (cd f A R wr) _
          refine pz_if_eq (off := 59) (t := 86) (by decide +kernel) (by decide) rfl kz_0 (fun h8 => ?_) (fun h8 => by omega)
          exact k_86_0 f hI (fun k n373 n376 => (hG k n373 n376))
        · skip
          refine pe_iload_n (j := 0) (by decide +kernel) rfl ?_
          refine pe_bipushv (n := 57) (v := 57) (by decide +kernel) (by decide +kernel) ?_
          refine pz_icmp_gt (off := 7) (t := 16) (by decide +kernel) (by decide) rfl rfl kz_57 (fun h9 => ?_) (fun h9 => ?_)
          · skip
            refine pe_iconstv (n := 0) (v := 0) (by decide +kernel) (by decide +kernel) ?_
            refine pe_iret (by decide +kernel) rfl rfl ⟨rfl, rfl, ?_⟩
            show pmE pg X pg_tyl pg_cl (d + 1) 28 27 [.ref 23] [.int 0] (cd f A R wr) _
            refine pz_if_eq (off := 59) (t := 86) (by decide +kernel) (by decide) rfl kz_0 (fun h10 => ?_) (fun h10 => by omega)
            exact k_86_0 f hI (fun k n373 n376 => (hG k n373 n376))
          · skip
            refine pe_iconstv (n := 1) (v := 1) (by decide +kernel) (by decide +kernel) ?_
            refine pe_goto (off := 4) (t := 17) (by decide +kernel) (by decide) rfl ?_
            refine pe_iret (by decide +kernel) rfl rfl ⟨rfl, rfl, ?_⟩
            show pmE pg X pg_tyl pg_cl (d + 1) 28 27 [.ref 23] [.int 1] (cd f A R wr) _
            refine pz_if_eq (off := 59) (t := 86) (by decide +kernel) (by decide) rfl kz_1 (fun h11 => by omega) (fun h11 => ?_)
            refine pe_aload_n (j := 0) (by decide +kernel) rfl ?_
            refine pe_aload_n (j := 0) (by decide +kernel) rfl ?_
            refine pe_get (j := 47) (ci := 4) (n := 5) (by decide +kernel) (by decide +kernel) cd_o23 rfl ?_
            refine pe_aload_n (j := 0) (by decide +kernel) rfl ?_
            refine pe_get (j := 69) (ci := 4) (n := 7) (by decide +kernel) (by decide +kernel) cd_o23 rfl ?_
            have hr_f_375 := cf_375 hI
            refine pz_sub (by decide +kernel) rfl rfl (by omega) (by omega) (fun z12 hz12 => ?_)
            refine pe_iconstv (n := 2) (v := 2) (by decide +kernel) (by decide +kernel) ?_
            refine pz_icmp_ge (off := 25) (t := 66) (by decide +kernel) (by decide) rfl hz12 kz_2 (fun h13 => ?_) (fun h13 => ?_)
            · skip
              clear hz12
              refine pe_aload_n (j := 0) (by decide +kernel) rfl ?_
              refine pe_get (j := 92) (ci := 4) (n := 8) (by decide +kernel) (by decide +kernel) cd_o23 rfl ?_
              refine cz_put376 (jj := 92) (by decide +kernel) (by decide +kernel) hI (fun f14 ef14 hIf14 => ?_)
              refine pe_aload_n (j := 0) (by decide +kernel) rfl ?_
              refine pe_dup (by decide +kernel) rfl ?_
              refine pe_get (j := 47) (ci := 4) (n := 5) (by decide +kernel) (by decide +kernel) cd_o23 rfl ?_
              refine pe_top (v := (f 373)) (upf_fr ef14 (by decide)) ?_
              refine pe_iconstv (n := 1) (v := 1) (by decide +kernel) (by decide +kernel) ?_
              refine pz_add (by decide +kernel) rfl kz_1 (by omega) (by omega) (fun z15 hz15 => ?_)
              refine cz_put373 (jj := 47) (by decide +kernel) (by decide +kernel) hIf14 (by omega) (by omega) (fun f16 ef16 hIf16 => ?_)
              refine pe_goto (off := (-78)) (t := 5) (by decide +kernel) (by decide) rfl ?_
              have hn_f16 : (f16 373).toInt = ((f 373).toInt + 1) := (congrArg Int32.toInt (show f16 373 = z15 from upf_at ef16)).trans hz15
              exact ih f16 hIf16 (fun k n373 n376 => (upf_fr ef16 n373).trans ((upf_fr ef14 n376).trans ((hG k n373 n376)))) (by omega)
            · skip
              clear hz12
              refine pe_aload_n (j := 0) (by decide +kernel) rfl ?_
              refine pe_get (j := 92) (ci := 4) (n := 8) (by decide +kernel) (by decide +kernel) cd_o23 rfl ?_
              refine pe_bipushv (n := 10) (v := 10) (by decide +kernel) (by decide +kernel) ?_
              refine pw_mul (by decide +kernel) (fun z17 => ?_)
              refine pe_aload_n (j := 0) (by decide +kernel) rfl ?_
              refine pe_aload_n (j := 0) (by decide +kernel) rfl ?_
              refine pe_get (j := 47) (ci := 4) (n := 5) (by decide +kernel) (by decide +kernel) cd_o23 rfl ?_
              refine pi_V (j := 184) (mj := 24) (by decide +kernel) (cll_V (args := [.int (f 373)]) (n := 1) (by decide +kernel) rfl rfl cd_o23 (by decide +kernel) (Nat.le_of_ble_eq_true rfl) (Nat.le_of_ble_eq_true rfl)) ?_
              show pmE pg X pg_tyl pg_cl (d) 24 0 [.ref 23, .int (f 373)] [] (cd f A R wr) _
              refine pe_iload_n (j := 1) (by decide +kernel) rfl ?_
              refine pz_if_lt (off := 20) (t := 21) (by decide +kernel) (by decide) rfl rfl (fun h18 => by omega) (fun h18 => ?_)
              refine pe_iload_n (j := 1) (by decide +kernel) rfl ?_
              refine pe_aload_n (j := 0) (by decide +kernel) rfl ?_
              refine pe_get (j := 43) (ci := 4) (n := 4) (by decide +kernel) (by decide +kernel) cd_o23 rfl ?_
              refine pz_icmp_ge (off := 12) (t := 21) (by decide +kernel) (by decide) rfl rfl rfl (fun h19 => ?_) (fun h19 => ?_)
              · skip
                refine pe_iconstv (n := (-1)) (v := (-1)) (by decide +kernel) (by decide +kernel) ?_
                refine pe_iret (by decide +kernel) rfl rfl ⟨rfl, rfl, ?_⟩
                show pmE pg X pg_tyl pg_cl (d + 1) 28 59 [.ref 23] [.int (-1), .int z17, .ref 23] (cd f A R wr) _
                refine pw_add (by decide +kernel) (fun z20 => ?_)
                refine pe_bipushv (n := 48) (v := 48) (by decide +kernel) (by decide +kernel) ?_
                refine pw_sub (by decide +kernel) (fun z21 => ?_)
                refine pe_goto (off := 7) (t := 70) (by decide +kernel) (by decide) rfl ?_
                refine cz_put376 (jj := 92) (by decide +kernel) (by decide +kernel) hI (fun f22 ef22 hIf22 => ?_)
                refine pe_aload_n (j := 0) (by decide +kernel) rfl ?_
                refine pe_dup (by decide +kernel) rfl ?_
                refine pe_get (j := 47) (ci := 4) (n := 5) (by decide +kernel) (by decide +kernel) cd_o23 rfl ?_
                refine pe_top (v := (f 373)) (upf_fr ef22 (by decide)) ?_
                refine pe_iconstv (n := 1) (v := 1) (by decide +kernel) (by decide +kernel) ?_
                refine pz_add (by decide +kernel) rfl kz_1 (by omega) (by omega) (fun z23 hz23 => ?_)
                refine cz_put373 (jj := 47) (by decide +kernel) (by decide +kernel) hIf22 (by omega) (by omega) (fun f24 ef24 hIf24 => ?_)
                refine pe_goto (off := (-78)) (t := 5) (by decide +kernel) (by decide) rfl ?_
                have hn_f24 : (f24 373).toInt = ((f 373).toInt + 1) := (congrArg Int32.toInt (show f24 373 = z23 from upf_at ef24)).trans hz23
                exact ih f24 hIf24 (fun k n373 n376 => (upf_fr ef24 n373).trans ((upf_fr ef22 n376).trans ((hG k n373 n376)))) (by omega)
              · skip
                refine pe_aload_n (j := 0) (by decide +kernel) rfl ?_
                refine pe_get (j := 29) (ci := 4) (n := 3) (by decide +kernel) (by decide +kernel) cd_o23 rfl ?_
                refine pe_topV (v := .ref 4) (hR4) ?_
                refine pe_iload_n (j := 1) (by decide +kernel) rfl ?_
                refine pz_bald (by decide +kernel) cd_a4 (cl_4 hI) rfl (by omega) (by omega) (fun v25 ev25 => ?_)
                rw [ev25.trans ev6.symm]
                clear ev25 v25
                refine pe_goto (off := 4) (t := 22) (by decide +kernel) (by decide) rfl ?_
                refine pe_iret (by decide +kernel) rfl rfl ⟨rfl, rfl, ?_⟩
                show pmE pg X pg_tyl pg_cl (d + 1) 28 59 [.ref 23] [.int v6, .int z17, .ref 23] (cd f A R wr) _
                refine pw_add (by decide +kernel) (fun z26 => ?_)
                refine pe_bipushv (n := 48) (v := 48) (by decide +kernel) (by decide +kernel) ?_
                refine pw_sub (by decide +kernel) (fun z27 => ?_)
                refine pe_goto (off := 7) (t := 70) (by decide +kernel) (by decide) rfl ?_
                refine cz_put376 (jj := 92) (by decide +kernel) (by decide +kernel) hI (fun f28 ef28 hIf28 => ?_)
                refine pe_aload_n (j := 0) (by decide +kernel) rfl ?_
                refine pe_dup (by decide +kernel) rfl ?_
                refine pe_get (j := 47) (ci := 4) (n := 5) (by decide +kernel) (by decide +kernel) cd_o23 rfl ?_
                refine pe_top (v := (f 373)) (upf_fr ef28 (by decide)) ?_
                refine pe_iconstv (n := 1) (v := 1) (by decide +kernel) (by decide +kernel) ?_
                refine pz_add (by decide +kernel) rfl kz_1 (by omega) (by omega) (fun z29 hz29 => ?_)
                refine cz_put373 (jj := 47) (by decide +kernel) (by decide +kernel) hIf28 (by omega) (by omega) (fun f30 ef30 hIf30 => ?_)
                refine pe_goto (off := (-78)) (t := 5) (by decide +kernel) (by decide) rfl ?_
                have hn_f30 : (f30 373).toInt = ((f 373).toInt + 1) := (congrArg Int32.toInt (show f30 373 = z29 from upf_at ef30)).trans hz29
                exact ih f30 hIf30 (fun k n373 n376 => (upf_fr ef30 n373).trans ((upf_fr ef28 n376).trans ((hG k n373 n376)))) (by omega)
set_option maxRecDepth 100000 in
set_option maxHeartbeats 8000000 in
theorem CM_28 {X : pm_X} {d : Nat} {wr : pm_W} {f : Nat → Int32} {A : Nat → List Int32} {R : Nat → Value} (hX : XO X) (hI : CI f A R) (hR4 : R 4 = .ref 4) : pmE pg X pg_tyl pg_cl (d + 1) 28 0 (pm_ent (pm_max pg 28) [.ref 23]) [] (cd f A R wr) (fun q => ∃ (f' : Nat → Int32), q = (none, cd f' A R wr, 0, 0) ∧ CI f' A R ∧ (∀ k : Nat, k ≠ 373 → k ≠ 374 → k ≠ 376 → f' k = f k) ∧ ((True))) := by
  show pmE pg X pg_tyl pg_cl (d + 1) 28 0 [.ref 23] [] (cd f A R wr) _
  refine pe_aload_n (j := 0) (by decide +kernel) rfl ?_
  refine pe_iconstv (n := 0) (v := 0) (by decide +kernel) (by decide +kernel) ?_
  refine cz_put376 (jj := 92) (by decide +kernel) (by decide +kernel) hI (fun f1 ef1 hIf1 => ?_)
  refine CL_28_5 hX (hR4) (fun f2 hIy3 hGf2 => ?_) 601 f1 hIf1 (fun k _ _ => rfl) (by have h := cf_373 hIf1; omega)
  refine pe_aload_n (j := 0) (by decide +kernel) rfl ?_
  refine pe_aload_n (j := 0) (by decide +kernel) rfl ?_
  refine pe_get (j := 47) (ci := 4) (n := 5) (by decide +kernel) (by decide +kernel) cd_o23 rfl ?_
  have hr_f2_373 := cf_373 hIy3
  refine pe_aload_n (j := 0) (by decide +kernel) rfl ?_
  refine pe_get (j := 69) (ci := 4) (n := 7) (by decide +kernel) (by decide +kernel) cd_o23 rfl ?_
  have hr_f_375 := cf_375 hI
  refine pe_top (v := (f 375)) (((hGf2 375 (by decide) (by decide))).trans (upf_fr ef1 (by decide))) ?_
  refine pz_sub (by decide +kernel) rfl rfl (by omega) (by omega) (fun z4 hz4 => ?_)
  refine pe_iconstv (n := 2) (v := 2) (by decide +kernel) (by decide +kernel) ?_
  refine pz_icmp_le (off := 7) (t := 104) (by decide +kernel) (by decide) rfl hz4 kz_2 (fun h5 => ?_) (fun h5 => ?_)
  · skip
    clear hz4
    refine pe_iconstv (n := 2) (v := 2) (by decide +kernel) (by decide +kernel) ?_
    refine cz_put374 (jj := 62) (by decide +kernel) (by decide +kernel) hIy3 (by decide +kernel) (by decide +kernel) (fun f6 ef6 hIf6 => ?_)
    exact pe_vret (by decide +kernel) rfl ⟨f6, rfl, hIf6, (fun k n373 n374 n376 => (upf_fr ef6 n374).trans (((hGf2 k n373 n376)).trans (upf_fr ef1 n376))), trivial⟩
  · skip
    clear hz4
    refine pe_iconstv (n := 4) (v := 4) (by decide +kernel) (by decide +kernel) ?_
    refine pe_goto (off := 4) (t := 105) (by decide +kernel) (by decide) rfl ?_
    refine cz_put374 (jj := 62) (by decide +kernel) (by decide +kernel) hIy3 (by decide +kernel) (by decide +kernel) (fun f7 ef7 hIf7 => ?_)
    exact pe_vret (by decide +kernel) rfl ⟨f7, rfl, hIf7, (fun k n373 n374 n376 => (upf_fr ef7 n374).trans (((hGf2 k n373 n376)).trans (upf_fr ef1 n376))), trivial⟩
