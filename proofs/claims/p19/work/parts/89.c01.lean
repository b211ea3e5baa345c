set_option maxRecDepth 100000 in
set_option maxHeartbeats 8000000 in
theorem CL_71_2_49 {X : pm_X} {d : Nat} {wr : pm_W} {Q : pm_R → Prop} {f0 : Nat → Int32} {A0 : Nat → List Int32} {R : Nat → Value} (hX : XO X) (k_78_0 : ∀ (f' : Nat → Int32) (A' : Nat → List Int32) (y2 : Int32), CI f' A' R → (∀ k : Nat, k ≠ 2256 → k ≠ 2288 → k ≠ 2320 → f' k = f0 k) → (∀ k : Nat, k ≠ 142 → k ≠ 144 → k ≠ 146 → A' k = A0 k) → (0 ≤ y2.toInt ∧ y2.toInt ≤ 3) → pmE pg X pg_tyl pg_cl (d + 1) 71 78 [.ref 127, .ref 1, .int y2] [] (cd f' A' R wr) Q) : ∀ (m : Nat) (f : Nat → Int32) (A : Nat → List Int32) (x2 : Int32), CI f A R → (∀ k : Nat, k ≠ 2256 → k ≠ 2288 → k ≠ 2320 → f k = f0 k) → (∀ k : Nat, k ≠ 142 → k ≠ 144 → k ≠ 146 → A k = A0 k) → (0 ≤ x2.toInt ∧ x2.toInt ≤ 3) → 3 - x2.toInt < (m : Int) → pmE pg X pg_tyl pg_cl (d + 1) 71 49 [.ref 127, .ref 1, .int x2] [] (cd f A R wr) Q := by
  intro m
  induction m with
  | zero =>
    intro f A x2 hI hG hF gx2 hm
    exfalso
    have l0 := zi_lo x2
    have u0 := zi_hi x2
    omega
  | succ m ih =>
    intro f A x2 hI hG hF gx2 hm
    refine pe_iload_n (j := 2) (by decide +kernel) rfl ?_
    refine pe_aload_n (j := 0) (by decide +kernel) rfl ?_
    refine pe_get (j := 36) (ci := 8) (n := 3) (by decide +kernel) (by decide +kernel) cd_o127 rfl ?_
    have hr_f_2035 := cf_2035 hI
    refine pz_icmp_ge (off := 24) (t := 78) (by decide +kernel) (by decide) rfl rfl rfl (fun h1 => ?_) (fun h1 => ?_)
    · skip
      exact k_78_0 f A x2 hI (fun k n2256 n2288 n2320 => (hG k n2256 n2288 n2320)) (fun k n142 n144 n146 => (hF k n142 n144 n146)) (by omega)
    · skip
      refine pe_aload_n (j := 0) (by decide +kernel) rfl ?_
      refine pe_get (j := 19) (ci := 8) (n := 1) (by decide +kernel) (by decide +kernel) cd_o127 rfl ?_
      refine pe_iload_n (j := 2) (by decide +kernel) rfl ?_
      by_cases h2 : x2.toInt = 0
      · skip
        refine pz_aald (q := 141) (t := 4) (n := 3) (i := 0) (C := "RingVillage$Row") (by decide +kernel) cd_q129 rfl rfl rfl (by omega) (by decide +kernel) rfl ?_
        refine pe_aload_n (j := 1) (by decide +kernel) rfl ?_
        refine pe_get (j := 19) (ci := 8) (n := 1) (by decide +kernel) (by decide +kernel) cd_o1 rfl ?_
        refine pe_iload_n (j := 2) (by decide +kernel) rfl ?_
        refine pz_aald (q := 15) (t := 4) (n := 3) (i := 0) (C := "RingVillage$Row") (by decide +kernel) cd_q3 rfl rfl rfl (by omega) (by decide +kernel) rfl ?_
        refine pi_V (j := 43) (mj := 57) (by decide +kernel) (cll_V (args := [.ref 15]) (n := 1) (by decide +kernel) rfl rfl cd_o141 (by decide +kernel) (Nat.le_of_ble_eq_true rfl) (Nat.le_of_ble_eq_true rfl)) ?_
        show pmE pg X pg_tyl pg_cl (d) 57 0 [.ref 141, .ref 15] [] (cd f A R wr) _
        refine pe_aload_n (j := 0) (by decide +kernel) rfl ?_
        refine pe_aload_n (j := 1) (by decide +kernel) rfl ?_
        refine pe_get (j := 15) (ci := 5) (n := 0) (by decide +kernel) (by decide +kernel) cd_o15 rfl ?_
        have hr_f_240 := cf_240 hI
        refine cz_put2256 (jj := 15) (by decide +kernel) (by decide +kernel) hI (by omega) (by omega) (fun f3 ef3 hIf3 => ?_)
        refine pe_aload_n (j := 1) (by decide +kernel) rfl ?_
        refine pe_get (j := 9) (ci := 5) (n := 1) (by decide +kernel) (by decide +kernel) cd_o15 rfl ?_
        refine pe_iconstv (n := 0) (v := 0) (by decide +kernel) (by decide +kernel) ?_
        refine pe_aload_n (j := 0) (by decide +kernel) rfl ?_
        refine pe_get (j := 9) (ci := 5) (n := 1) (by decide +kernel) (by decide +kernel) cd_o141 rfl ?_
        refine pe_iconstv (n := 0) (v := 0) (by decide +kernel) (by decide +kernel) ?_
        refine pe_sipushv (n := 270) (v := 270) (by decide +kernel) (by decide +kernel) ?_
        have hl4 := kz_270
        have hl5 := kz_0
        have hl6 := kz_0
        refine cz_copy (j := 19) (a := 0) (b := 0) (c := 270) (by decide +kernel) (by decide +kernel) (Nat.le_of_ble_eq_true rfl) cd_a16 cd_a142 (by decide +kernel) (fun _ => cd_s142) hIf3 (cl_16 hIf3) (cl_142 hIf3) kz_0 kz_0 kz_270 (by omega) (by omega) (by omega) (by omega) (by omega) (Or.inl rfl) (ct_no (by decide +kernel)) (fun A7 eA7 hIA7 => ?_)
        refine pe_vret (by decide +kernel) rfl ⟨rfl, rfl, ?_⟩
        show pmE pg X pg_tyl pg_cl (d + 1) 71 72 [.ref 127, .ref 1, .int x2] [] (cd f3 A7 R wr) _
        refine pz_iinc (j := 2) (n := 1) (by decide +kernel) rfl rfl (by decide +kernel) (by omega) (by omega) (fun z8 hz8 => ?_)
        show pmE pg X pg_tyl pg_cl (d + 1) 71 75 [.ref 127, .ref 1, .int z8] [] (cd f3 A7 R wr) _
        refine pe_goto (off := (-26)) (t := 49) (by decide +kernel) (by decide) rfl ?_
        exact ih f3 A7 z8 hIA7 (fun k n2256 n2288 n2320 => (upf_fr ef3 n2256).trans ((hG k n2256 n2288 n2320))) (fun k n142 n144 n146 => (upa_fr eA7 n142).trans ((hF k n142 n144 n146))) (by omega) (by omega)
      · skip
        by_cases h9 : x2.toInt = 1
        · skip
          refine pz_aald (q := 143) (t := 4) (n := 3) (i := 1) (C := "RingVillage$Row") (by decide +kernel) cd_q129 rfl rfl rfl (by omega) (by decide +kernel) rfl ?_
          refine pe_aload_n (j := 1) (by decide +kernel) rfl ?_
          refine pe_get (j := 19) (ci := 8) (n := 1) (by decide +kernel) (by decide +kernel) cd_o1 rfl ?_
          refine pe_iload_n (j := 2) (by decide +kernel) rfl ?_
          refine pz_aald (q := 17) (t := 4) (n := 3) (i := 1) (C := "RingVillage$Row") (by decide +kernel) cd_q3 rfl rfl rfl (by omega) (by decide +kernel) rfl ?_
          refine pi_V (j := 43) (mj := 57) (by decide +kernel) (cll_V (args := [.ref 17]) (n := 1) (by decide +kernel) rfl rfl cd_o143 (by decide +kernel) (Nat.le_of_ble_eq_true rfl) (Nat.le_of_ble_eq_true rfl)) ?_
          show pmE pg X pg_tyl pg_cl (d) 57 0 [.ref 143, .ref 17] [] (cd f A R wr) _
          refine pe_aload_n (j := 0) (by decide +kernel) rfl ?_
          refine pe_aload_n (j := 1) (by decide +kernel) rfl ?_
          refine pe_get (j := 15) (ci := 5) (n := 0) (by decide +kernel) (by decide +kernel) cd_o17 rfl ?_
          have hr_f_272 := cf_272 hI
          refine cz_put2288 (jj := 15) (by decide +kernel) (by decide +kernel) hI (by omega) (by omega) (fun f10 ef10 hIf10 => ?_)
          refine pe_aload_n (j := 1) (by decide +kernel) rfl ?_
          refine pe_get (j := 9) (ci := 5) (n := 1) (by decide +kernel) (by decide +kernel) cd_o17 rfl ?_
          refine pe_iconstv (n := 0) (v := 0) (by decide +kernel) (by decide +kernel) ?_
          refine pe_aload_n (j := 0) (by decide +kernel) rfl ?_
          refine pe_get (j := 9) (ci := 5) (n := 1) (by decide +kernel) (by decide +kernel) cd_o143 rfl ?_
          refine pe_iconstv (n := 0) (v := 0) (by decide +kernel) (by decide +kernel) ?_
          refine pe_sipushv (n := 270) (v := 270) (by decide +kernel) (by decide +kernel) ?_
          have hl11 := kz_270
          have hl12 := kz_0
          have hl13 := kz_0
          refine cz_copy (j := 19) (a := 0) (b := 0) (c := 270) (by decide +kernel) (by decide +kernel) (Nat.le_of_ble_eq_true rfl) cd_a18 cd_a144 (by decide +kernel) (fun _ => cd_s144) hIf10 (cl_18 hIf10) (cl_144 hIf10) kz_0 kz_0 kz_270 (by omega) (by omega) (by omega) (by omega) (by omega) (Or.inl rfl) (ct_no (by decide +kernel)) (fun A14 eA14 hIA14 => ?_)
          refine pe_vret (by decide +kernel) rfl ⟨rfl, rfl, ?_⟩
          show pmE pg X pg_tyl pg_cl (d + 1) 71 72 [.ref 127, .ref 1, .int x2] [] (cd f10 A14 R wr) _
          refine pz_iinc (j := 2) (n := 1) (by decide +kernel) rfl rfl (by decide +kernel) (by omega) (by omega) (fun z15 hz15 => ?_)
          show pmE pg X pg_tyl pg_cl (d + 1) 71 75 [.ref 127, .ref 1, .int z15] [] (cd f10 A14 R wr) _
          refine pe_goto (off := (-26)) (t := 49) (by decide +kernel) (by decide) rfl ?_
          exact ih f10 A14 z15 hIA14 (fun k n2256 n2288 n2320 => (upf_fr ef10 n2288).trans ((hG k n2256 n2288 n2320))) (fun k n142 n144 n146 => (upa_fr eA14 n144).trans ((hF k n142 n144 n146))) (by omega) (by omega)
        · skip
          refine pz_aald (q := 145) (t := 4) (n := 3) (i := 2) (C := "RingVillage$Row") (by decide +kernel) cd_q129 rfl rfl rfl (by omega) (by decide +kernel) rfl ?_
          refine pe_aload_n (j := 1) (by decide +kernel) rfl ?_
          refine pe_get (j := 19) (ci := 8) (n := 1) (by decide +kernel) (by decide +kernel) cd_o1 rfl ?_
          refine pe_iload_n (j := 2) (by decide +kernel) rfl ?_
          refine pz_aald (q := 19) (t := 4) (n := 3) (i := 2) (C := "RingVillage$Row") (by decide +kernel) cd_q3 rfl rfl rfl (by omega) (by decide +kernel) rfl ?_
          refine pi_V (j := 43) (mj := 57) (by decide +kernel) (cll_V (args := [.ref 19]) (n := 1) (by decide +kernel) rfl rfl cd_o145 (by decide +kernel) (Nat.le_of_ble_eq_true rfl) (Nat.le_of_ble_eq_true rfl)) ?_
          show pmE pg X pg_tyl pg_cl (d) 57 0 [.ref 145, .ref 19] [] (cd f A R wr) _
          refine pe_aload_n (j := 0) (by decide +kernel) rfl ?_
          refine pe_aload_n (j := 1) (by decide +kernel) rfl ?_
          refine pe_get (j := 15) (ci := 5) (n := 0) (by decide +kernel) (by decide +kernel) cd_o19 rfl ?_
          have hr_f_304 := cf_304 hI
          refine cz_put2320 (jj := 15) (by decide +kernel) (by decide +kernel) hI (by omega) (by omega) (fun f16 ef16 hIf16 => ?_)
          refine pe_aload_n (j := 1) (by decide +kernel) rfl ?_
          refine pe_get (j := 9) (ci := 5) (n := 1) (by decide +kernel) (by decide +kernel) cd_o19 rfl ?_
          refine pe_iconstv (n := 0) (v := 0) (by decide +kernel) (by decide +kernel) ?_
          refine pe_aload_n (j := 0) (by decide +kernel) rfl ?_
          refine pe_get (j := 9) (ci := 5) (n := 1) (by decide +kernel) (by decide +kernel) cd_o145 rfl ?_
          refine pe_iconstv (n := 0) (v := 0) (by decide +kernel) (by decide +kernel) ?_
          refine pe_sipushv (n := 270) (v := 270) (by decide +kernel) (by decide +kernel) ?_
          have hl17 := kz_270
          have hl18 := kz_0
          have hl19 := kz_0
          refine cz_copy (j := 19) (a := 0) (b := 0) (c := 270) (by decide +kernel) (by decide +kernel) (Nat.le_of_ble_eq_true rfl) cd_a20 cd_a146 (by decide +kernel) (fun _ => cd_s146) hIf16 (cl_20 hIf16) (cl_146 hIf16) kz_0 kz_0 kz_270 (by omega) (by omega) (by omega) (by omega) (by omega) (Or.inl rfl) (ct_no (by decide +kernel)) (fun A20 eA20 hIA20 => ?_)
          refine pe_vret (by decide +kernel) rfl ⟨rfl, rfl, ?_⟩
          show pmE pg X pg_tyl pg_cl (d + 1) 71 72 [.ref 127, .ref 1, .int x2] [] (cd f16 A20 R wr) _
          refine pz_iinc (j := 2) (n := 1) (by decide +kernel) rfl rfl (by decide +kernel) (by omega) (by omega) (fun z21 hz21 => ?_)
          show pmE pg X pg_tyl pg_cl (d + 1) 71 75 [.ref 127, .ref 1, .int z21] [] (cd f16 A20 R wr) _
          refine pe_goto (off := (-26)) (t := 49) (by decide +kernel) (by decide) rfl ?_
          exact ih f16 A20 z21 hIA20 (fun k n2256 n2288 n2320 => (upf_fr ef16 n2320).trans ((hG k n2256 n2288 n2320))) (fun k n142 n144 n146 => (upa_fr eA20 n146).trans ((hF k n142 n144 n146))) (by omega) (by omega)
set_option maxRecDepth 100000 in
set_option maxHeartbeats 8000000 in
theorem CL_71_2_18 {X : pm_X} {d : Nat} {wr : pm_W} {Q : pm_R → Prop} {f0 : Nat → Int32} {A0 : Nat → List Int32} {R : Nat → Value} (hX : XO X) (k_47_0 : ∀ (f' : Nat → Int32) (A' : Nat → List Int32) (y2 : Int32), CI f' A' R → (∀ k : Nat, k ≠ 2096 → k ≠ 2097 → k ≠ 2098 → k ≠ 2176 → k ≠ 2177 → k ≠ 2178 → f' k = f0 k) → (∀ k : Nat, k ≠ 132 → k ≠ 133 → k ≠ 134 → k ≠ 135 → k ≠ 137 → k ≠ 138 → k ≠ 139 → k ≠ 140 → A' k = A0 k) → (0 ≤ y2.toInt ∧ y2.toInt ≤ 2) → pmE pg X pg_tyl pg_cl (d + 1) 71 47 [.ref 127, .ref 1, .int y2] [] (cd f' A' R wr) Q) : ∀ (m : Nat) (f : Nat → Int32) (A : Nat → List Int32) (x2 : Int32), CI f A R → (∀ k : Nat, k ≠ 2096 → k ≠ 2097 → k ≠ 2098 → k ≠ 2176 → k ≠ 2177 → k ≠ 2178 → f k = f0 k) → (∀ k : Nat, k ≠ 132 → k ≠ 133 → k ≠ 134 → k ≠ 135 → k ≠ 137 → k ≠ 138 → k ≠ 139 → k ≠ 140 → A k = A0 k) → (0 ≤ x2.toInt ∧ x2.toInt ≤ 2) → 2 - x2.toInt < (m : Int) → pmE pg X pg_tyl pg_cl (d + 1) 71 18 [.ref 127, .ref 1, .int x2] [] (cd f A R wr) Q := by
  intro m
  induction m with
  | zero =>
    intro f A x2 hI hG hF gx2 hm
    exfalso
    have l0 := zi_lo x2
    have u0 := zi_hi x2
    omega
  | succ m ih =>
    intro f A x2 hI hG hF gx2 hm
    refine pe_iload_n (j := 2) (by decide +kernel) rfl ?_
    refine pe_aload_n (j := 0) (by decide +kernel) rfl ?_
    refine pe_get (j := 33) (ci := 8) (n := 2) (by decide +kernel) (by decide +kernel) cd_o127 rfl ?_
    have hr_f_2034 := cf_2034 hI
    refine pz_icmp_ge (off := 24) (t := 47) (by decide +kernel) (by decide) rfl rfl rfl (fun h1 => ?_) (fun h1 => ?_)
    · skip
      exact k_47_0 f A x2 hI (fun k n2096 n2097 n2098 n2176 n2177 n2178 => (hG k n2096 n2097 n2098 n2176 n2177 n2178)) (fun k n132 n133 n134 n135 n137 n138 n139 n140 => (hF k n132 n133 n134 n135 n137 n138 n139 n140)) (by omega)
    · skip
      refine pe_aload_n (j := 0) (by decide +kernel) rfl ?_
      refine pe_get (j := 11) (ci := 8) (n := 0) (by decide +kernel) (by decide +kernel) cd_o127 rfl ?_
      refine pe_iload_n (j := 2) (by decide +kernel) rfl ?_
      by_cases h2 : x2.toInt = 0
      · skip
        refine pz_aald (q := 131) (t := 3) (n := 2) (i := 0) (C := "RingVillage$Village") (by decide +kernel) cd_q128 rfl rfl rfl (by omega) (by decide +kernel) rfl ?_
        refine pe_aload_n (j := 1) (by decide +kernel) rfl ?_
        refine pe_get (j := 11) (ci := 8) (n := 0) (by decide +kernel) (by decide +kernel) cd_o1 rfl ?_
        refine pe_iload_n (j := 2) (by decide +kernel) rfl ?_
        refine pz_aald (q := 5) (t := 3) (n := 2) (i := 0) (C := "RingVillage$Village") (by decide +kernel) cd_q2 rfl rfl rfl (by omega) (by decide +kernel) rfl ?_
        refine pi_V (j := 39) (mj := 56) (by decide +kernel) (cll_V (args := [.ref 5]) (n := 1) (by decide +kernel) rfl rfl cd_o131 (by decide +kernel) (Nat.le_of_ble_eq_true rfl) (Nat.le_of_ble_eq_true rfl)) ?_
        show pmE pg X pg_tyl pg_cl (d) 56 0 [.ref 131, .ref 5] [] (cd f A R wr) _
        refine pe_aload_n (j := 0) (by decide +kernel) rfl ?_
        refine pe_aload_n (j := 1) (by decide +kernel) rfl ?_
        refine pe_get (j := 9) (ci := 9) (n := 0) (by decide +kernel) (by decide +kernel) cd_o5 rfl ?_
        have hr_f_80 := cf_80 hI
        refine cz_put2096 (jj := 9) (by decide +kernel) (by decide +kernel) hI (by omega) (by omega) (fun f3 ef3 hIf3 => ?_)
        refine pe_aload_n (j := 0) (by decide +kernel) rfl ?_
        refine pe_aload_n (j := 1) (by decide +kernel) rfl ?_
        refine pe_get (j := 28) (ci := 9) (n := 1) (by decide +kernel) (by decide +kernel) cd_o5 rfl ?_
        refine pe_top (v := (f 81)) (upf_fr ef3 (by decide)) ?_
        refine cz_put2097 (jj := 28) (by decide +kernel) (by decide +kernel) hIf3 (fun f4 ef4 hIf4 => ?_)
        refine pe_aload_n (j := 0) (by decide +kernel) rfl ?_
        refine pe_aload_n (j := 1) (by decide +kernel) rfl ?_
        refine pe_get (j := 31) (ci := 9) (n := 2) (by decide +kernel) (by decide +kernel) cd_o5 rfl ?_
        have hr_f_82 := cf_82 hI
        refine pe_top (v := (f 82)) ((upf_fr ef4 (by decide)).trans (upf_fr ef3 (by decide))) ?_
        refine cz_put2098 (jj := 31) (by decide +kernel) (by decide +kernel) hIf4 (by omega) (by omega) (fun f5 ef5 hIf5 => ?_)
        refine pe_aload_n (j := 1) (by decide +kernel) rfl ?_
        refine pe_get (j := 15) (ci := 9) (n := 3) (by decide +kernel) (by decide +kernel) cd_o5 rfl ?_
        refine pe_iconstv (n := 0) (v := 0) (by decide +kernel) (by decide +kernel) ?_
        refine pe_aload_n (j := 0) (by decide +kernel) rfl ?_
        refine pe_get (j := 15) (ci := 9) (n := 3) (by decide +kernel) (by decide +kernel) cd_o131 rfl ?_
        refine pe_iconstv (n := 0) (v := 0) (by decide +kernel) (by decide +kernel) ?_
        refine pe_bipushv (n := 81) (v := 81) (by decide +kernel) (by decide +kernel) ?_
        have hl6 := kz_81
        have hl7 := kz_0
        have hl8 := kz_0
        refine cz_copy (j := 40) (a := 0) (b := 0) (c := 81) (by decide +kernel) (by decide +kernel) (Nat.le_of_ble_eq_true rfl) cd_a6 cd_a132 (by decide +kernel) (fun _ => cd_s132) hIf5 (cl_6 hIf5) (cl_132 hIf5) kz_0 kz_0 kz_81 (by omega) (by omega) (by omega) (by omega) (by omega) (Or.inl rfl) (ct_no (by decide +kernel)) (fun A9 eA9 hIA9 => ?_)
        refine pe_aload_n (j := 1) (by decide +kernel) rfl ?_
        refine pe_get (j := 19) (ci := 9) (n := 4) (by decide +kernel) (by decide +kernel) cd_o5 rfl ?_
        refine pe_iconstv (n := 0) (v := 0) (by decide +kernel) (by decide +kernel) ?_
        refine pe_aload_n (j := 0) (by decide +kernel) rfl ?_
        refine pe_get (j := 19) (ci := 9) (n := 4) (by decide +kernel) (by decide +kernel) cd_o131 rfl ?_
        refine pe_iconstv (n := 0) (v := 0) (by decide +kernel) (by decide +kernel) ?_
        refine pe_bipushv (n := 9) (v := 9) (by decide +kernel) (by decide +kernel) ?_
        have hl10 := kz_9
        have hl11 := kz_0
        have hl12 := kz_0
        refine cz_copy (j := 40) (a := 0) (b := 0) (c := 9) (by decide +kernel) (by decide +kernel) (Nat.le_of_ble_eq_true rfl) cd_a7 cd_a133 (by decide +kernel) (fun _ => cd_s133) hIA9 (cl_7 hIA9) (cl_133 hIA9) kz_0 kz_0 kz_9 (by omega) (by omega) (by omega) (by omega) (by omega) (Or.inl rfl) (ct_no (by decide +kernel)) (fun A13 eA13 hIA13 => ?_)
        refine pe_aload_n (j := 1) (by decide +kernel) rfl ?_
        refine pe_get (j := 22) (ci := 9) (n := 5) (by decide +kernel) (by decide +kernel) cd_o5 rfl ?_
        refine pe_iconstv (n := 0) (v := 0) (by decide +kernel) (by decide +kernel) ?_
        refine pe_aload_n (j := 0) (by decide +kernel) rfl ?_
        refine pe_get (j := 22) (ci := 9) (n := 5) (by decide +kernel) (by decide +kernel) cd_o131 rfl ?_
        refine pe_iconstv (n := 0) (v := 0) (by decide +kernel) (by decide +kernel) ?_
        refine pe_bipushv (n := 9) (v := 9) (by decide +kernel) (by decide +kernel) ?_
        have hl14 := kz_9
        have hl15 := kz_0
        have hl16 := kz_0
        refine cz_copy (j := 40) (a := 0) (b := 0) (c := 9) (by decide +kernel) (by decide +kernel) (Nat.le_of_ble_eq_true rfl) cd_a8 cd_a134 (by decide +kernel) (fun _ => cd_s134) hIA13 (cl_8 hIA13) (cl_134 hIA13) kz_0 kz_0 kz_9 (by omega) (by omega) (by omega) (by omega) (by omega) (Or.inl rfl) (ct_no (by decide +kernel)) (fun A17 eA17 hIA17 => ?_)
        refine pe_aload_n (j := 1) (by decide +kernel) rfl ?_
        refine pe_get (j := 25) (ci := 9) (n := 6) (by decide +kernel) (by decide +kernel) cd_o5 rfl ?_
        refine pe_iconstv (n := 0) (v := 0) (by decide +kernel) (by decide +kernel) ?_
        refine pe_aload_n (j := 0) (by decide +kernel) rfl ?_
        refine pe_get (j := 25) (ci := 9) (n := 6) (by decide +kernel) (by decide +kernel) cd_o131 rfl ?_
        refine pe_iconstv (n := 0) (v := 0) (by decide +kernel) (by decide +kernel) ?_
        refine pe_bipushv (n := 28) (v := 28) (by decide +kernel) (by decide +kernel) ?_
        have hl18 := kz_28
        have hl19 := kz_0
        have hl20 := kz_0
        refine cz_copy (j := 40) (a := 0) (b := 0) (c := 28) (by decide +kernel) (by decide +kernel) (Nat.le_of_ble_eq_true rfl) cd_a9 cd_a135 (by decide +kernel) (fun _ => cd_s135) hIA17 (cl_9 hIA17) (cl_135 hIA17) kz_0 kz_0 kz_28 (by omega) (by omega) (by omega) (by omega) (by omega) (Or.inl rfl) (ct_one (kd := 0) (P := fun kd => ∀ i, i < (28 : Int).toNat → CT kd ((0 : Int).toNat + i) ((A17 9).getD ((0 : Int).toNat + i) 0).toInt) (by decide +kernel) (fun i _ => ct_9 hIA17 rfl)) (fun A21 eA21 hIA21 => ?_)
        refine pe_vret (by decide +kernel) rfl ⟨rfl, rfl, ?_⟩
        show pmE pg X pg_tyl pg_cl (d + 1) 71 41 [.ref 127, .ref 1, .int x2] [] (cd f5 A21 R wr) _
        refine pz_iinc (j := 2) (n := 1) (by decide +kernel) rfl rfl (by decide +kernel) (by omega) (by omega) (fun z22 hz22 => ?_)
        show pmE pg X pg_tyl pg_cl (d + 1) 71 44 [.ref 127, .ref 1, .int z22] [] (cd f5 A21 R wr) _
        refine pe_goto (off := (-26)) (t := 18) (by decide +kernel) (by decide) rfl ?_
        exact ih f5 A21 z22 hIA21 (fun k n2096 n2097 n2098 n2176 n2177 n2178 => (upf_fr ef5 n2098).trans ((upf_fr ef4 n2097).trans ((upf_fr ef3 n2096).trans ((hG k n2096 n2097 n2098 n2176 n2177 n2178))))) (fun k n132 n133 n134 n135 n137 n138 n139 n140 => (upa_fr eA21 n135).trans ((upa_fr eA17 n134).trans ((upa_fr eA13 n133).trans ((upa_fr eA9 n132).trans ((hF k n132 n133 n134 n135 n137 n138 n139 n140)))))) (by omega) (by omega)
      · skip
        refine pz_aald (q := 136) (t := 3) (n := 2) (i := 1) (C := "RingVillage$Village") (by decide +kernel) cd_q128 rfl rfl rfl (by omega) (by decide +kernel) rfl ?_
        refine pe_aload_n (j := 1) (by decide +kernel) rfl ?_
        refine pe_get (j := 11) (ci := 8) (n := 0) (by decide +kernel) (by decide +kernel) cd_o1 rfl ?_
        refine pe_iload_n (j := 2) (by decide +kernel) rfl ?_
        refine pz_aald (q := 10) (t := 3) (n := 2) (i := 1) (C := "RingVillage$Village") (by decide +kernel) cd_q2 rfl rfl rfl (by omega) (by decide +kernel) rfl ?_
        refine pi_V (j := 39) (mj := 56) (by decide +kernel) (cll_V (args := [.ref 10]) (n := 1) (by decide +kernel) rfl rfl cd_o136 (by decide +kernel) (Nat.le_of_ble_eq_true rfl) (Nat.le_of_ble_eq_true rfl)) ?_
        show pmE pg X pg_tyl pg_cl (d) 56 0 [.ref 136, .ref 10] [] (cd f A R wr) _
        refine pe_aload_n (j := 0) (by decide +kernel) rfl ?_
        refine pe_aload_n (j := 1) (by decide +kernel) rfl ?_
        refine pe_get (j := 9) (ci := 9) (n := 0) (by decide +kernel) (by decide +kernel) cd_o10 rfl ?_
        have hr_f_160 := cf_160 hI
        refine cz_put2176 (jj := 9) (by decide +kernel) (by decide +kernel) hI (by omega) (by omega) (fun f23 ef23 hIf23 => ?_)
        refine pe_aload_n (j := 0) (by decide +kernel) rfl ?_
        refine pe_aload_n (j := 1) (by decide +kernel) rfl ?_
        refine pe_get (j := 28) (ci := 9) (n := 1) (by decide +kernel) (by decide +kernel) cd_o10 rfl ?_
        refine pe_top (v := (f 161)) (upf_fr ef23 (by decide)) ?_
        refine cz_put2177 (jj := 28) (by decide +kernel) (by decide +kernel) hIf23 (fun f24 ef24 hIf24 => ?_)
        refine pe_aload_n (j := 0) (by decide +kernel) rfl ?_
        refine pe_aload_n (j := 1) (by decide +kernel) rfl ?_
        refine pe_get (j := 31) (ci := 9) (n := 2) (by decide +kernel) (by decide +kernel) cd_o10 rfl ?_
        have hr_f_162 := cf_162 hI
        refine pe_top (v := (f 162)) ((upf_fr ef24 (by decide)).trans (upf_fr ef23 (by decide))) ?_
        refine cz_put2178 (jj := 31) (by decide +kernel) (by decide +kernel) hIf24 (by omega) (by omega) (fun f25 ef25 hIf25 => ?_)
        refine pe_aload_n (j := 1) (by decide +kernel) rfl ?_
        refine pe_get (j := 15) (ci := 9) (n := 3) (by decide +kernel) (by decide +kernel) cd_o10 rfl ?_
        refine pe_iconstv (n := 0) (v := 0) (by decide +kernel) (by decide +kernel) ?_
        refine pe_aload_n (j := 0) (by decide +kernel) rfl ?_
        refine pe_get (j := 15) (ci := 9) (n := 3) (by decide +kernel) (by decide +kernel) cd_o136 rfl ?_
        refine pe_iconstv (n := 0) (v := 0) (by decide +kernel) (by decide +kernel) ?_
        refine pe_bipushv (n := 81) (v := 81) (by decide +kernel) (by decide +kernel) ?_
        have hl26 := kz_81
        have hl27 := kz_0
        have hl28 := kz_0
        refine cz_copy (j := 40) (a := 0) (b := 0) (c := 81) (by decide +kernel) (by decide +kernel) (Nat.le_of_ble_eq_true rfl) cd_a11 cd_a137 (by decide +kernel) (fun _ => cd_s137) hIf25 (cl_11 hIf25) (cl_137 hIf25) kz_0 kz_0 kz_81 (by omega) (by omega) (by omega) (by omega) (by omega) (Or.inl rfl) (ct_no (by decide +kernel)) (fun A29 eA29 hIA29 => ?_)
        refine pe_aload_n (j := 1) (by decide +kernel) rfl ?_
        refine pe_get (j := 19) (ci := 9) (n := 4) (by decide +kernel) (by decide +kernel) cd_o10 rfl ?_
        refine pe_iconstv (n := 0) (v := 0) (by decide +kernel) (by decide +kernel) ?_
        refine pe_aload_n (j := 0) (by decide +kernel) rfl ?_
        refine pe_get (j := 19) (ci := 9) (n := 4) (by decide +kernel) (by decide +kernel) cd_o136 rfl ?_
        refine pe_iconstv (n := 0) (v := 0) (by decide +kernel) (by decide +kernel) ?_
        refine pe_bipushv (n := 9) (v := 9) (by decide +kernel) (by decide +kernel) ?_
        have hl30 := kz_9
        have hl31 := kz_0
        have hl32 := kz_0
        refine cz_copy (j := 40) (a := 0) (b := 0) (c := 9) (by decide +kernel) (by decide +kernel) (Nat.le_of_ble_eq_true rfl) cd_a12 cd_a138 (by decide +kernel) (fun _ => cd_s138) hIA29 (cl_12 hIA29) (cl_138 hIA29) kz_0 kz_0 kz_9 (by omega) (by omega) (by omega) (by omega) (by omega) (Or.inl rfl) (ct_no (by decide +kernel)) (fun A33 eA33 hIA33 => ?_)
        refine pe_aload_n (j := 1) (by decide +kernel) rfl ?_
        refine pe_get (j := 22) (ci := 9) (n := 5) (by decide +kernel) (by decide +kernel) cd_o10 rfl ?_
        refine pe_iconstv (n := 0) (v := 0) (by decide +kernel) (by decide +kernel) ?_
        refine pe_aload_n (j := 0) (by decide +kernel) rfl ?_
        refine pe_get (j := 22) (ci := 9) (n := 5) (by decide +kernel) (by decide +kernel) cd_o136 rfl ?_
        refine pe_iconstv (n := 0) (v := 0) (by decide +kernel) (by decide +kernel) ?_
        refine pe_bipushv (n := 9) (v := 9) (by decide +kernel) (by decide +kernel) ?_
        have hl34 := kz_9
        have hl35 := kz_0
        have hl36 := kz_0
        refine cz_copy (j := 40) (a := 0) (b := 0) (c := 9) (by decide +kernel) (by decide +kernel) (Nat.le_of_ble_eq_true rfl) cd_a13 cd_a139 (by decide +kernel) (fun _ => cd_s139) hIA33 (cl_13 hIA33) (cl_139 hIA33) kz_0 kz_0 kz_9 (by omega) (by omega) (by omega) (by omega) (by omega) (Or.inl rfl) (ct_no (by decide +kernel)) (fun A37 eA37 hIA37 => ?_)
        refine pe_aload_n (j := 1) (by decide +kernel) rfl ?_
        refine pe_get (j := 25) (ci := 9) (n := 6) (by decide +kernel) (by decide +kernel) cd_o10 rfl ?_
        refine pe_iconstv (n := 0) (v := 0) (by decide +kernel) (by decide +kernel) ?_
        refine pe_aload_n (j := 0) (by decide +kernel) rfl ?_
        refine pe_get (j := 25) (ci := 9) (n := 6) (by decide +kernel) (by decide +kernel) cd_o136 rfl ?_
        refine pe_iconstv (n := 0) (v := 0) (by decide +kernel) (by decide +kernel) ?_
        refine pe_bipushv (n := 28) (v := 28) (by decide +kernel) (by decide +kernel) ?_
        have hl38 := kz_28
        have hl39 := kz_0
        have hl40 := kz_0
        refine cz_copy (j := 40) (a := 0) (b := 0) (c := 28) (by decide +kernel) (by decide +kernel) (Nat.le_of_ble_eq_true rfl) cd_a14 cd_a140 (by decide +kernel) (fun _ => cd_s140) hIA37 (cl_14 hIA37) (cl_140 hIA37) kz_0 kz_0 kz_28 (by omega) (by omega) (by omega) (by omega) (by omega) (Or.inl rfl) (ct_one (kd := 0) (P := fun kd => ∀ i, i < (28 : Int).toNat → CT kd ((0 : Int).toNat + i) ((A37 14).getD ((0 : Int).toNat + i) 0).toInt) (by decide +kernel) (fun i _ => ct_14 hIA37 rfl)) (fun A41 eA41 hIA41 => ?_)
        refine pe_vret (by decide +kernel) rfl ⟨rfl, rfl, ?_⟩
        show pmE pg X pg_tyl pg_cl (d + 1) 71 41 [.ref 127, .ref 1, .int x2] [] (cd f25 A41 R wr) _
        refine pz_iinc (j := 2) (n := 1) (by decide +kernel) rfl rfl (by decide +kernel) (by omega) (by omega) (fun z42 hz42 => ?_)
        show pmE pg X pg_tyl pg_cl (d + 1) 71 44 [.ref 127, .ref 1, .int z42] [] (cd f25 A41 R wr) _
        refine pe_goto (off := (-26)) (t := 18) (by decide +kernel) (by decide) rfl ?_
        exact ih f25 A41 z42 hIA41 (fun k n2096 n2097 n2098 n2176 n2177 n2178 => (upf_fr ef25 n2178).trans ((upf_fr ef24 n2177).trans ((upf_fr ef23 n2176).trans ((hG k n2096 n2097 n2098 n2176 n2177 n2178))))) (fun k n132 n133 n134 n135 n137 n138 n139 n140 => (upa_fr eA41 n140).trans ((upa_fr eA37 n139).trans ((upa_fr eA33 n138).trans ((upa_fr eA29 n137).trans ((hF k n132 n133 n134 n135 n137 n138 n139 n140)))))) (by omega) (by omega)
set_option maxRecDepth 100000 in
set_option maxHeartbeats 8000000 in
theorem CM_71_2 {X : pm_X} {d : Nat} {wr : pm_W} {f : Nat → Int32} {A : Nat → List Int32} {R : Nat → Value} (hX : XO X) (hI : CI f A R) : pmE pg X pg_tyl pg_cl (d + 1) 71 0 (pm_ent (pm_max pg 71) [.ref 127, .ref 1]) [] (cd f A R wr) (fun q => ∃ (f' : Nat → Int32) (A' : Nat → List Int32), q = (none, cd f' A' R wr, 0, 0) ∧ CI f' A' R ∧ (∀ k : Nat, k ≠ 2034 → k ≠ 2035 → k ≠ 2037 → k ≠ 2038 → k ≠ 2039 → k ≠ 2096 → k ≠ 2097 → k ≠ 2098 → k ≠ 2176 → k ≠ 2177 → k ≠ 2178 → k ≠ 2256 → k ≠ 2288 → k ≠ 2320 → f' k = f k) ∧ (∀ k : Nat, k ≠ 130 → k ≠ 132 → k ≠ 133 → k ≠ 134 → k ≠ 135 → k ≠ 137 → k ≠ 138 → k ≠ 139 → k ≠ 140 → k ≠ 142 → k ≠ 144 → k ≠ 146 → A' k = A k) ∧ ((f' 2037).toInt + (-1) * (f 21).toInt) ≤ 0 ∧ ((-1) * (f' 2037).toInt + (f 21).toInt) ≤ 0 ∧ ((True))) := by
  show pmE pg X pg_tyl pg_cl (d + 1) 71 0 [.ref 127, .ref 1, pm_dead] [] (cd f A R wr) _
  refine pe_aload_n (j := 0) (by decide +kernel) rfl ?_
  refine pe_aload_n (j := 1) (by decide +kernel) rfl ?_
  refine pe_get (j := 33) (ci := 8) (n := 2) (by decide +kernel) (by decide +kernel) cd_o1 rfl ?_
  have hr_f_18 := cf_18 hI
  refine cz_put2034 (jj := 33) (by decide +kernel) (by decide +kernel) hI (by omega) (by omega) (fun f1 ef1 hIf1 => ?_)
  refine pe_aload_n (j := 0) (by decide +kernel) rfl ?_
  refine pe_aload_n (j := 1) (by decide +kernel) rfl ?_
  refine pe_get (j := 36) (ci := 8) (n := 3) (by decide +kernel) (by decide +kernel) cd_o1 rfl ?_
  have hr_f_19 := cf_19 hI
  refine pe_top (v := (f 19)) (upf_fr ef1 (by decide)) ?_
  refine cz_put2035 (jj := 36) (by decide +kernel) (by decide +kernel) hIf1 (by omega) (by omega) (fun f2 ef2 hIf2 => ?_)
  refine pe_iconstv (n := 0) (v := 0) (by decide +kernel) (by decide +kernel) ?_
  refine pe_istore_n (j := 2) (ls' := [.ref 127, .ref 1, .int 0]) (by decide +kernel) (Nat.le_of_ble_eq_true rfl) rfl ?_
  refine CL_71_2_18 hX (fun f3 A4 y5 hIy6 hGf3 hFA4 gy5 => ?_) 3 f2 A 0 hIf2 (fun k _ _ _ _ _ _ => rfl) (fun k _ _ _ _ _ _ _ _ => rfl) (by decide +kernel) (by decide +kernel)
  refine pe_iconstv (n := 0) (v := 0) (by decide +kernel) (by decide +kernel) ?_
  refine pe_istore_n (j := 2) (ls' := [.ref 127, .ref 1, .int 0]) (by decide +kernel) (Nat.le_of_ble_eq_true rfl) rfl ?_
  refine CL_71_2_49 hX (fun f7 A8 y9 hIy10 hGf7 hFA8 gy9 => ?_) 4 f3 A4 0 hIy6 (fun k _ _ _ => rfl) (fun k _ _ _ => rfl) (by decide +kernel) (by decide +kernel)
  refine pe_aload_n (j := 0) (by decide +kernel) rfl ?_
  refine pe_aload_n (j := 1) (by decide +kernel) rfl ?_
  refine pe_get (j := 46) (ci := 8) (n := 5) (by decide +kernel) (by decide +kernel) cd_o1 rfl ?_
  have hr_f_21 := cf_21 hI
  refine pe_top (v := (f 21)) (((hGf7 21 (by decide) (by decide) (by decide))).trans (((hGf3 21 (by decide) (by decide) (by decide) (by decide) (by decide) (by decide))).trans ((upf_fr ef2 (by decide)).trans (upf_fr ef1 (by decide))))) ?_
  refine cz_put2037 (jj := 46) (by decide +kernel) (by decide +kernel) hIy10 (by omega) (by omega) (fun f11 ef11 hIf11 => ?_)
  refine pe_aload_n (j := 1) (by decide +kernel) rfl ?_
  refine pe_get (j := 23) (ci := 8) (n := 4) (by decide +kernel) (by decide +kernel) cd_o1 rfl ?_
  refine pe_iconstv (n := 0) (v := 0) (by decide +kernel) (by decide +kernel) ?_
  refine pe_aload_n (j := 0) (by decide +kernel) rfl ?_
  refine pe_get (j := 23) (ci := 8) (n := 4) (by decide +kernel) (by decide +kernel) cd_o127 rfl ?_
  refine pe_iconstv (n := 0) (v := 0) (by decide +kernel) (by decide +kernel) ?_
  refine pe_aload_n (j := 0) (by decide +kernel) rfl ?_
  refine pe_get (j := 46) (ci := 8) (n := 5) (by decide +kernel) (by decide +kernel) cd_o127 rfl ?_
  refine pe_top (v := (f 21)) (upf_at ef11) ?_
  have hl12 := kz_0
  have hl13 := kz_0
  refine cz_copy (j := 49) (a := 0) (b := 0) (c := (f 21).toInt) (by decide +kernel) (by decide +kernel) (Nat.le_of_ble_eq_true rfl) cd_a4 cd_a130 (by decide +kernel) (fun _ => cd_s130) hIf11 (cl_4 hIf11) (cl_130 hIf11) kz_0 kz_0 rfl (by omega) (by omega) (by omega) (by omega) (by omega) (Or.inr (fun i => fits_b (ct_4 hIf11 rfl))) (ct_one (kd := 7) (P := fun kd => ∀ i, i < ((f 21).toInt : Int).toNat → CT kd ((0 : Int).toNat + i) ((A8 4).getD ((0 : Int).toNat + i) 0).toInt) (by decide +kernel) (fun i _ => ct_4 hIf11 rfl)) (fun A14 eA14 hIA14 => ?_)
  refine pe_aload_n (j := 0) (by decide +kernel) rfl ?_
  refine pe_aload_n (j := 1) (by decide +kernel) rfl ?_
  refine pe_get (j := 55) (ci := 8) (n := 6) (by decide +kernel) (by decide +kernel) cd_o1 rfl ?_
  refine pe_top (v := (f 22)) ((upf_fr ef11 (by decide)).trans (((hGf7 22 (by decide) (by decide) (by decide))).trans (((hGf3 22 (by decide) (by decide) (by decide) (by decide) (by decide) (by decide))).trans ((upf_fr ef2 (by decide)).trans (upf_fr ef1 (by decide)))))) ?_
  refine cz_put2038 (jj := 55) (by decide +kernel) (by decide +kernel) hIA14 (fun f15 ef15 hIf15 => ?_)
  refine pe_aload_n (j := 0) (by decide +kernel) rfl ?_
  refine pe_aload_n (j := 1) (by decide +kernel) rfl ?_
  refine pe_get (j := 27) (ci := 8) (n := 7) (by decide +kernel) (by decide +kernel) cd_o1 rfl ?_
  refine pe_top (v := (f 23)) ((upf_fr ef15 (by decide)).trans ((upf_fr ef11 (by decide)).trans (((hGf7 23 (by decide) (by decide) (by decide))).trans (((hGf3 23 (by decide) (by decide) (by decide) (by decide) (by decide) (by decide))).trans ((upf_fr ef2 (by decide)).trans (upf_fr ef1 (by decide))))))) ?_
  refine cz_put2039 (jj := 27) (by decide +kernel) (by decide +kernel) hIf15 (fun f16 ef16 hIf16 => ?_)
  have hx17 : (f16 2037).toInt = (f 21).toInt := (congrArg Int32.toInt (show f16 2037 = (f 21) from (upf_fr ef16 (by decide)).trans ((upf_fr ef15 (by decide)).trans (upf_at ef11)))).trans rfl
  have hx18 : (f16 21).toInt = (f 21).toInt := (congrArg Int32.toInt (show f16 21 = (f 21) from (upf_fr ef16 (by decide)).trans ((upf_fr ef15 (by decide)).trans ((upf_fr ef11 (by decide)).trans (((hGf7 21 (by decide) (by decide) (by decide))).trans (((hGf3 21 (by decide) (by decide) (by decide) (by decide) (by decide) (by decide))).trans ((upf_fr ef2 (by decide)).trans (upf_fr ef1 (by decide))))))))).trans rfl
  have hx19 : (f16 2037).toInt = (f 21).toInt := (congrArg Int32.toInt (show f16 2037 = (f 21) from (upf_fr ef16 (by decide)).trans ((upf_fr ef15 (by decide)).trans (upf_at ef11)))).trans rfl
  have hx20 : (f16 21).toInt = (f 21).toInt := (congrArg Int32.toInt (show f16 21 = (f 21) from (upf_fr ef16 (by decide)).trans ((upf_fr ef15 (by decide)).trans ((upf_fr ef11 (by decide)).trans (((hGf7 21 (by decide) (by decide) (by decide))).trans (((hGf3 21 (by decide) (by decide) (by decide) (by decide) (by decide) (by decide))).trans ((upf_fr ef2 (by decide)).trans (upf_fr ef1 (by decide))))))))).trans rfl
  exact pe_vret (by decide +kernel) rfl ⟨f16, A14, rfl, hIf16, (fun k n2034 n2035 n2037 n2038 n2039 n2096 n2097 n2098 n2176 n2177 n2178 n2256 n2288 n2320 => (upf_fr ef16 n2039).trans ((upf_fr ef15 n2038).trans ((upf_fr ef11 n2037).trans (((hGf7 k n2256 n2288 n2320)).trans (((hGf3 k n2096 n2097 n2098 n2176 n2177 n2178)).trans ((upf_fr ef2 n2035).trans (upf_fr ef1 n2034))))))), (fun k n130 n132 n133 n134 n135 n137 n138 n139 n140 n142 n144 n146 => (upa_fr eA14 n130).trans (((hFA8 k n142 n144 n146)).trans ((hFA4 k n132 n133 n134 n135 n137 n138 n139 n140)))), (by omega), (by omega), trivial⟩
set_option maxRecDepth 100000 in
set_option maxHeartbeats 8000000 in
theorem CL_71_3_49 {X : pm_X} {d : Nat} {wr : pm_W} {Q : pm_R → Prop} {f0 : Nat → Int32} {A0 : Nat → List Int32} {R : Nat → Value} (hX : XO X) (k_78_0 : ∀ (f' : Nat → Int32) (A' : Nat → List Int32) (y2 : Int32), CI f' A' R → (∀ k : Nat, k ≠ 240 → k ≠ 272 → k ≠ 304 → f' k = f0 k) → (∀ k : Nat, k ≠ 16 → k ≠ 18 → k ≠ 20 → A' k = A0 k) → (0 ≤ y2.toInt ∧ y2.toInt ≤ 3) → pmE pg X pg_tyl pg_cl (d + 1) 71 78 [.ref 1, .ref 87, .int y2] [] (cd f' A' R wr) Q) : ∀ (m : Nat) (f : Nat → Int32) (A : Nat → List Int32) (x2 : Int32), CI f A R → (∀ k : Nat, k ≠ 240 → k ≠ 272 → k ≠ 304 → f k = f0 k) → (∀ k : Nat, k ≠ 16 → k ≠ 18 → k ≠ 20 → A k = A0 k) → (0 ≤ x2.toInt ∧ x2.toInt ≤ 3) → 3 - x2.toInt < (m : Int) → pmE pg X pg_tyl pg_cl (d + 1) 71 49 [.ref 1, .ref 87, .int x2] [] (cd f A R wr) Q := by
  intro m
  induction m with
  | zero =>
    intro f A x2 hI hG hF gx2 hm
    exfalso
    have l0 := zi_lo x2
    have u0 := zi_hi x2
    omega
  | succ m ih =>
    intro f A x2 hI hG hF gx2 hm
    refine pe_iload_n (j := 2) (by decide +kernel) rfl ?_
    refine pe_aload_n (j := 0) (by decide +kernel) rfl ?_
    refine pe_get (j := 36) (ci := 8) (n := 3) (by decide +kernel) (by decide +kernel) cd_o1 rfl ?_
    have hr_f_19 := cf_19 hI
    refine pz_icmp_ge (off := 24) (t := 78) (by decide +kernel) (by decide) rfl rfl rfl (fun h1 => ?_) (fun h1 => ?_)
    · skip
      exact k_78_0 f A x2 hI (fun k n240 n272 n304 => (hG k n240 n272 n304)) (fun k n16 n18 n20 => (hF k n16 n18 n20)) (by omega)
    · skip
      refine pe_aload_n (j := 0) (by decide +kernel) rfl ?_
      refine pe_get (j := 19) (ci := 8) (n := 1) (by decide +kernel) (by decide +kernel) cd_o1 rfl ?_
      refine pe_iload_n (j := 2) (by decide +kernel) rfl ?_
      by_cases h2 : x2.toInt = 0
      · skip
        refine pz_aald (q := 15) (t := 4) (n := 3) (i := 0) (C := "RingVillage$Row") (by decide +kernel) cd_q3 rfl rfl rfl (by omega) (by decide +kernel) rfl ?_
        refine pe_aload_n (j := 1) (by decide +kernel) rfl ?_
        refine pe_get (j := 19) (ci := 8) (n := 1) (by decide +kernel) (by decide +kernel) cd_o87 rfl ?_
        refine pe_iload_n (j := 2) (by decide +kernel) rfl ?_
        refine pz_aald (q := 101) (t := 4) (n := 3) (i := 0) (C := "RingVillage$Row") (by decide +kernel) cd_q89 rfl rfl rfl (by omega) (by decide +kernel) rfl ?_
        refine pi_V (j := 43) (mj := 57) (by decide +kernel) (cll_V (args := [.ref 101]) (n := 1) (by decide +kernel) rfl rfl cd_o15 (by decide +kernel) (Nat.le_of_ble_eq_true rfl) (Nat.le_of_ble_eq_true rfl)) ?_
        show pmE pg X pg_tyl pg_cl (d) 57 0 [.ref 15, .ref 101] [] (cd f A R wr) _
        refine pe_aload_n (j := 0) (by decide +kernel) rfl ?_
        refine pe_aload_n (j := 1) (by decide +kernel) rfl ?_
        refine pe_get (j := 15) (ci := 5) (n := 0) (by decide +kernel) (by decide +kernel) cd_o101 rfl ?_
        have hr_f_1616 := cf_1616 hI
        refine cz_put240 (jj := 15) (by decide +kernel) (by decide +kernel) hI (by omega) (by omega) (fun f3 ef3 hIf3 => ?_)
        refine pe_aload_n (j := 1) (by decide +kernel) rfl ?_
        refine pe_get (j := 9) (ci := 5) (n := 1) (by decide +kernel) (by decide +kernel) cd_o101 rfl ?_
        refine pe_iconstv (n := 0) (v := 0) (by decide +kernel) (by decide +kernel) ?_
        refine pe_aload_n (j := 0) (by decide +kernel) rfl ?_
        refine pe_get (j := 9) (ci := 5) (n := 1) (by decide +kernel) (by decide +kernel) cd_o15 rfl ?_
        refine pe_iconstv (n := 0) (v := 0) (by decide +kernel) (by decide +kernel) ?_
        refine pe_sipushv (n := 270) (v := 270) (by decide +kernel) (by decide +kernel) ?_
        have hl4 := kz_270
        have hl5 := kz_0
        have hl6 := kz_0
        refine cz_copy (j := 19) (a := 0) (b := 0) (c := 270) (by decide +kernel) (by decide +kernel) (Nat.le_of_ble_eq_true rfl) cd_a102 cd_a16 (by decide +kernel) (fun _ => cd_s16) hIf3 (cl_102 hIf3) (cl_16 hIf3) kz_0 kz_0 kz_270 (by omega) (by omega) (by omega) (by omega) (by omega) (Or.inl rfl) (ct_no (by decide +kernel)) (fun A7 eA7 hIA7 => ?_)
        refine pe_vret (by decide +kernel) rfl ⟨rfl, rfl, ?_⟩
        show pmE pg X pg_tyl pg_cl (d + 1) 71 72 [.ref 1, .ref 87, .int x2] [] (cd f3 A7 R wr) _
        refine pz_iinc (j := 2) (n := 1) (by decide +kernel) rfl rfl (by decide +kernel) (by omega) (by omega) (fun z8 hz8 => ?_)
        show pmE pg X pg_tyl pg_cl (d + 1) 71 75 [.ref 1, .ref 87, .int z8] [] (cd f3 A7 R wr) _
        refine pe_goto (off := (-26)) (t := 49) (by decide +kernel) (by decide) rfl ?_
        exact ih f3 A7 z8 hIA7 (fun k n240 n272 n304 => (upf_fr ef3 n240).trans ((hG k n240 n272 n304))) (fun k n16 n18 n20 => (upa_fr eA7 n16).trans ((hF k n16 n18 n20))) (by omega) (by omega)
      · skip
        by_cases h9 : x2.toInt = 1
        · skip
          refine pz_aald (q := 17) (t := 4) (n := 3) (i := 1) (C := "RingVillage$Row") (by decide +kernel) cd_q3 rfl rfl rfl (by omega) (by decide +kernel) rfl ?_
          refine pe_aload_n (j := 1) (by decide +kernel) rfl ?_
          refine pe_get (j := 19) (ci := 8) (n := 1) (by decide +kernel) (by decide +kernel) cd_o87 rfl ?_
          refine pe_iload_n (j := 2) (by decide +kernel) rfl ?_
          refine pz_aald (q := 103) (t := 4) (n := 3) (i := 1) (C := "RingVillage$Row") (by decide +kernel) cd_q89 rfl rfl rfl (by omega) (by decide +kernel) rfl ?_
          refine pi_V (j := 43) (mj := 57) (by decide +kernel) (cll_V (args := [.ref 103]) (n := 1) (by decide +kernel) rfl rfl cd_o17 (by decide +kernel) (Nat.le_of_ble_eq_true rfl) (Nat.le_of_ble_eq_true rfl)) ?_
          show pmE pg X pg_tyl pg_cl (d) 57 0 [.ref 17, .ref 103] [] (cd f A R wr) _
          refine pe_aload_n (j := 0) (by decide +kernel) rfl ?_
          refine pe_aload_n (j := 1) (by decide +kernel) rfl ?_
          refine pe_get (j := 15) (ci := 5) (n := 0) (by decide +kernel) (by decide +kernel) cd_o103 rfl ?_
          have hr_f_1648 := cf_1648 hI
          refine cz_put272 (jj := 15) (by decide +kernel) (by decide +kernel) hI (by omega) (by omega) (fun f10 ef10 hIf10 => ?_)
          refine pe_aload_n (j := 1) (by decide +kernel) rfl ?_
          refine pe_get (j := 9) (ci := 5) (n := 1) (by decide +kernel) (by decide +kernel) cd_o103 rfl ?_
          refine pe_iconstv (n := 0) (v := 0) (by decide +kernel) (by decide +kernel) ?_
          refine pe_aload_n (j := 0) (by decide +kernel) rfl ?_
          refine pe_get (j := 9) (ci := 5) (n := 1) (by decide +kernel) (by decide +kernel) cd_o17 rfl ?_
          refine pe_iconstv (n := 0) (v := 0) (by decide +kernel) (by decide +kernel) ?_
          refine pe_sipushv (n := 270) (v := 270) (by decide +kernel) (by decide +kernel) ?_
          have hl11 := kz_270
          have hl12 := kz_0
          have hl13 := kz_0
          refine cz_copy (j := 19) (a := 0) (b := 0) (c := 270) (by decide +kernel) (by decide +kernel) (Nat.le_of_ble_eq_true rfl) cd_a104 cd_a18 (by decide +kernel) (fun _ => cd_s18) hIf10 (cl_104 hIf10) (cl_18 hIf10) kz_0 kz_0 kz_270 (by omega) (by omega) (by omega) (by omega) (by omega) (Or.inl rfl) (ct_no (by decide +kernel)) (fun A14 eA14 hIA14 => ?_)
          refine pe_vret (by decide +kernel) rfl ⟨rfl, rfl, ?_⟩
          show pmE pg X pg_tyl pg_cl (d + 1) 71 72 [.ref 1, .ref 87, .int x2] [] (cd f10 A14 R wr) _
          refine pz_iinc (j := 2) (n := 1) (by decide +kernel) rfl rfl (by decide +kernel) (by omega) (by omega) (fun z15 hz15 => ?_)
          show pmE pg X pg_tyl pg_cl (d + 1) 71 75 [.ref 1, .ref 87, .int z15] [] (cd f10 A14 R wr) _
          refine pe_goto (off := (-26)) (t := 49) (by decide +kernel) (by decide) rfl ?_
          exact ih f10 A14 z15 hIA14 (fun k n240 n272 n304 => (upf_fr ef10 n272).trans ((hG k n240 n272 n304))) (fun k n16 n18 n20 => (upa_fr eA14 n18).trans ((hF k n16 n18 n20))) (by omega) (by omega)
        · skip
          refine pz_aald (q := 19) (t := 4) (n := 3) (i := 2) (C := "RingVillage$Row") (by decide +kernel) cd_q3 rfl rfl rfl (by omega) (by decide +kernel) rfl ?_
          refine pe_aload_n (j := 1) (by decide +kernel) rfl ?_
          refine pe_get (j := 19) (ci := 8) (n := 1) (by decide +kernel) (by decide +kernel) cd_o87 rfl ?_
          refine pe_iload_n (j := 2) (by decide +kernel) rfl ?_
          refine pz_aald (q := 105) (t := 4) (n := 3) (i := 2) (C := "RingVillage$Row") (by decide +kernel) cd_q89 rfl rfl rfl (by omega) (by decide +kernel) rfl ?_
          refine pi_V (j := 43) (mj := 57) (by decide +kernel) (cll_V (args := [.ref 105]) (n := 1) (by decide +kernel) rfl rfl cd_o19 (by decide +kernel) (Nat.le_of_ble_eq_true rfl) (Nat.le_of_ble_eq_true rfl)) ?_
          show pmE pg X pg_tyl pg_cl (d) 57 0 [.ref 19, .ref 105] [] (cd f A R wr) _
          refine pe_aload_n (j := 0) (by decide +kernel) rfl ?_
          refine pe_aload_n (j := 1) (by decide +kernel) rfl ?_
          refine pe_get (j := 15) (ci := 5) (n := 0) (by decide +kernel) (by decide +kernel) cd_o105 rfl ?_
          have hr_f_1680 := cf_1680 hI
          refine cz_put304 (jj := 15) (by decide +kernel) (by decide +kernel) hI (by omega) (by omega) (fun f16 ef16 hIf16 => ?_)
          refine pe_aload_n (j := 1) (by decide +kernel) rfl ?_
          refine pe_get (j := 9) (ci := 5) (n := 1) (by decide +kernel) (by decide +kernel) cd_o105 rfl ?_
          refine pe_iconstv (n := 0) (v := 0) (by decide +kernel) (by decide +kernel) ?_
          refine pe_aload_n (j := 0) (by decide +kernel) rfl ?_
          refine pe_get (j := 9) (ci := 5) (n := 1) (by decide +kernel) (by decide +kernel) cd_o19 rfl ?_
          refine pe_iconstv (n := 0) (v := 0) (by decide +kernel) (by decide +kernel) ?_
          refine pe_sipushv (n := 270) (v := 270) (by decide +kernel) (by decide +kernel) ?_
          have hl17 := kz_270
          have hl18 := kz_0
          have hl19 := kz_0
          refine cz_copy (j := 19) (a := 0) (b := 0) (c := 270) (by decide +kernel) (by decide +kernel) (Nat.le_of_ble_eq_true rfl) cd_a106 cd_a20 (by decide +kernel) (fun _ => cd_s20) hIf16 (cl_106 hIf16) (cl_20 hIf16) kz_0 kz_0 kz_270 (by omega) (by omega) (by omega) (by omega) (by omega) (Or.inl rfl) (ct_no (by decide +kernel)) (fun A20 eA20 hIA20 => ?_)
          refine pe_vret (by decide +kernel) rfl ⟨rfl, rfl, ?_⟩
          show pmE pg X pg_tyl pg_cl (d + 1) 71 72 [.ref 1, .ref 87, .int x2] [] (cd f16 A20 R wr) _
          refine pz_iinc (j := 2) (n := 1) (by decide +kernel) rfl rfl (by decide +kernel) (by omega) (by omega) (fun z21 hz21 => ?_)
          show pmE pg X pg_tyl pg_cl (d + 1) 71 75 [.ref 1, .ref 87, .int z21] [] (cd f16 A20 R wr) _
          refine pe_goto (off := (-26)) (t := 49) (by decide +kernel) (by decide) rfl ?_
          exact ih f16 A20 z21 hIA20 (fun k n240 n272 n304 => (upf_fr ef16 n304).trans ((hG k n240 n272 n304))) (fun k n16 n18 n20 => (upa_fr eA20 n20).trans ((hF k n16 n18 n20))) (by omega) (by omega)
set_option maxRecDepth 100000 in
set_option maxHeartbeats 8000000 in
theorem CL_71_3_18 {X : pm_X} {d : Nat} {wr : pm_W} {Q : pm_R → Prop} {f0 : Nat → Int32} {A0 : Nat → List Int32} {R : Nat → Value} (hX : XO X) (k_47_0 : ∀ (f' : Nat → Int32) (A' : Nat → List Int32) (y2 : Int32), CI f' A' R → (∀ k : Nat, k ≠ 80 → k ≠ 81 → k ≠ 82 → k ≠ 160 → k ≠ 161 → k ≠ 162 → f' k = f0 k) → (∀ k : Nat, k ≠ 6 → k ≠ 7 → k ≠ 8 → k ≠ 9 → k ≠ 11 → k ≠ 12 → k ≠ 13 → k ≠ 14 → A' k = A0 k) → (0 ≤ y2.toInt ∧ y2.toInt ≤ 2) → pmE pg X pg_tyl pg_cl (d + 1) 71 47 [.ref 1, .ref 87, .int y2] [] (cd f' A' R wr) Q) : ∀ (m : Nat) (f : Nat → Int32) (A : Nat → List Int32) (x2 : Int32), CI f A R → (∀ k : Nat, k ≠ 80 → k ≠ 81 → k ≠ 82 → k ≠ 160 → k ≠ 161 → k ≠ 162 → f k = f0 k) → (∀ k : Nat, k ≠ 6 → k ≠ 7 → k ≠ 8 → k ≠ 9 → k ≠ 11 → k ≠ 12 → k ≠ 13 → k ≠ 14 → A k = A0 k) → (0 ≤ x2.toInt ∧ x2.toInt ≤ 2) → 2 - x2.toInt < (m : Int) → pmE pg X pg_tyl pg_cl (d + 1) 71 18 [.ref 1, .ref 87, .int x2] [] (cd f A R wr) Q := by
  intro m
  induction m with
  | zero =>
    intro f A x2 hI hG hF gx2 hm
    exfalso
    have l0 := zi_lo x2
    have u0 := zi_hi x2
    omega
  | succ m ih =>
    intro f A x2 hI hG hF gx2 hm
    refine pe_iload_n (j := 2) (by decide +kernel) rfl ?_
    refine pe_aload_n (j := 0) (by decide +kernel) rfl ?_
    refine pe_get (j := 33) (ci := 8) (n := 2) (by decide +kernel) (by decide +kernel) cd_o1 rfl ?_
    have hr_f_18 := cf_18 hI
    refine pz_icmp_ge (off := 24) (t := 47) (by decide +kernel) (by decide) rfl rfl rfl (fun h1 => ?_) (fun h1 => ?_)
    · skip
      exact k_47_0 f A x2 hI (fun k n80 n81 n82 n160 n161 n162 => (hG k n80 n81 n82 n160 n161 n162)) (fun k n6 n7 n8 n9 n11 n12 n13 n14 => (hF k n6 n7 n8 n9 n11 n12 n13 n14)) (by omega)
    · skip
      refine pe_aload_n (j := 0) (by decide +kernel) rfl ?_
      refine pe_get (j := 11) (ci := 8) (n := 0) (by decide +kernel) (by decide +kernel) cd_o1 rfl ?_
      refine pe_iload_n (j := 2) (by decide +kernel) rfl ?_
      by_cases h2 : x2.toInt = 0
      · skip
        refine pz_aald (q := 5) (t := 3) (n := 2) (i := 0) (C := "RingVillage$Village") (by decide +kernel) cd_q2 rfl rfl rfl (by omega) (by decide +kernel) rfl ?_
        refine pe_aload_n (j := 1) (by decide +kernel) rfl ?_
        refine pe_get (j := 11) (ci := 8) (n := 0) (by decide +kernel) (by decide +kernel) cd_o87 rfl ?_
        refine pe_iload_n (j := 2) (by decide +kernel) rfl ?_
        refine pz_aald (q := 91) (t := 3) (n := 2) (i := 0) (C := "RingVillage$Village") (by decide +kernel) cd_q88 rfl rfl rfl (by omega) (by decide +kernel) rfl ?_
        refine pi_V (j := 39) (mj := 56) (by decide +kernel) (cll_V (args := [.ref 91]) (n := 1) (by decide +kernel) rfl rfl cd_o5 (by decide +kernel) (Nat.le_of_ble_eq_true rfl) (Nat.le_of_ble_eq_true rfl)) ?_
        show pmE pg X pg_tyl pg_cl (d) 56 0 [.ref 5, .ref 91] [] (cd f A R wr) _
        refine pe_aload_n (j := 0) (by decide +kernel) rfl ?_
        refine pe_aload_n (j := 1) (by decide +kernel) rfl ?_
        refine pe_get (j := 9) (ci := 9) (n := 0) (by decide +kernel) (by decide +kernel) cd_o91 rfl ?_
        have hr_f_1456 := cf_1456 hI
        refine cz_put80 (jj := 9) (by decide +kernel) (by decide +kernel) hI (by omega) (by omega) (fun f3 ef3 hIf3 => ?_)
        refine pe_aload_n (j := 0) (by decide +kernel) rfl ?_
        refine pe_aload_n (j := 1) (by decide +kernel) rfl ?_
        refine pe_get (j := 28) (ci := 9) (n := 1) (by decide +kernel) (by decide +kernel) cd_o91 rfl ?_
        refine pe_top (v := (f 1457)) (upf_fr ef3 (by decide)) ?_
        refine cz_put81 (jj := 28) (by decide +kernel) (by decide +kernel) hIf3 (fun f4 ef4 hIf4 => ?_)
        refine pe_aload_n (j := 0) (by decide +kernel) rfl ?_
        refine pe_aload_n (j := 1) (by decide +kernel) rfl ?_
        refine pe_get (j := 31) (ci := 9) (n := 2) (by decide +kernel) (by decide +kernel) cd_o91 rfl ?_
        have hr_f_1458 := cf_1458 hI
        refine pe_top (v := (f 1458)) ((upf_fr ef4 (by decide)).trans (upf_fr ef3 (by decide))) ?_
        refine cz_put82 (jj := 31) (by decide +kernel) (by decide +kernel) hIf4 (by omega) (by omega) (fun f5 ef5 hIf5 => ?_)
        refine pe_aload_n (j := 1) (by decide +kernel) rfl ?_
        refine pe_get (j := 15) (ci := 9) (n := 3) (by decide +kernel) (by decide +kernel) cd_o91 rfl ?_
        refine pe_iconstv (n := 0) (v := 0) (by decide +kernel) (by decide +kernel) ?_
        refine pe_aload_n (j := 0) (by decide +kernel) rfl ?_
        refine pe_get (j := 15) (ci := 9) (n := 3) (by decide +kernel) (by decide +kernel) cd_o5 rfl ?_
        refine pe_iconstv (n := 0) (v := 0) (by decide +kernel) (by decide +kernel) ?_
        refine pe_bipushv (n := 81) (v := 81) (by decide +kernel) (by decide +kernel) ?_
        have hl6 := kz_81
        have hl7 := kz_0
        have hl8 := kz_0
        refine cz_copy (j := 40) (a := 0) (b := 0) (c := 81) (by decide +kernel) (by decide +kernel) (Nat.le_of_ble_eq_true rfl) cd_a92 cd_a6 (by decide +kernel) (fun _ => cd_s6) hIf5 (cl_92 hIf5) (cl_6 hIf5) kz_0 kz_0 kz_81 (by omega) (by omega) (by omega) (by omega) (by omega) (Or.inl rfl) (ct_no (by decide +kernel)) (fun A9 eA9 hIA9 => ?_)
        refine pe_aload_n (j := 1) (by decide +kernel) rfl ?_
        refine pe_get (j := 19) (ci := 9) (n := 4) (by decide +kernel) (by decide +kernel) cd_o91 rfl ?_
        refine pe_iconstv (n := 0) (v := 0) (by decide +kernel) (by decide +kernel) ?_
        refine pe_aload_n (j := 0) (by decide +kernel) rfl ?_
        refine pe_get (j := 19) (ci := 9) (n := 4) (by decide +kernel) (by decide +kernel) cd_o5 rfl ?_
        refine pe_iconstv (n := 0) (v := 0) (by decide +kernel) (by decide +kernel) ?_
        refine pe_bipushv (n := 9) (v := 9) (by decide +kernel) (by decide +kernel) ?_
        have hl10 := kz_9
        have hl11 := kz_0
        have hl12 := kz_0
        refine cz_copy (j := 40) (a := 0) (b := 0) (c := 9) (by decide +kernel) (by decide +kernel) (Nat.le_of_ble_eq_true rfl) cd_a93 cd_a7 (by decide +kernel) (fun _ => cd_s7) hIA9 (cl_93 hIA9) (cl_7 hIA9) kz_0 kz_0 kz_9 (by omega) (by omega) (by omega) (by omega) (by omega) (Or.inl rfl) (ct_no (by decide +kernel)) (fun A13 eA13 hIA13 => ?_)
        refine pe_aload_n (j := 1) (by decide +kernel) rfl ?_
        refine pe_get (j := 22) (ci := 9) (n := 5) (by decide +kernel) (by decide +kernel) cd_o91 rfl ?_
        refine pe_iconstv (n := 0) (v := 0) (by decide +kernel) (by decide +kernel) ?_
        refine pe_aload_n (j := 0) (by decide +kernel) rfl ?_
        refine pe_get (j := 22) (ci := 9) (n := 5) (by decide +kernel) (by decide +kernel) cd_o5 rfl ?_
        refine pe_iconstv (n := 0) (v := 0) (by decide +kernel) (by decide +kernel) ?_
        refine pe_bipushv (n := 9) (v := 9) (by decide +kernel) (by decide +kernel) ?_
        have hl14 := kz_9
        have hl15 := kz_0
        have hl16 := kz_0
        refine cz_copy (j := 40) (a := 0) (b := 0) (c := 9) (by decide +kernel) (by decide +kernel) (Nat.le_of_ble_eq_true rfl) cd_a94 cd_a8 (by decide +kernel) (fun _ => cd_s8) hIA13 (cl_94 hIA13) (cl_8 hIA13) kz_0 kz_0 kz_9 (by omega) (by omega) (by omega) (by omega) (by omega) (Or.inl rfl) (ct_no (by decide +kernel)) (fun A17 eA17 hIA17 => ?_)
        refine pe_aload_n (j := 1) (by decide +kernel) rfl ?_
        refine pe_get (j := 25) (ci := 9) (n := 6) (by decide +kernel) (by decide +kernel) cd_o91 rfl ?_
        refine pe_iconstv (n := 0) (v := 0) (by decide +kernel) (by decide +kernel) ?_
        refine pe_aload_n (j := 0) (by decide +kernel) rfl ?_
        refine pe_get (j := 25) (ci := 9) (n := 6) (by decide +kernel) (by decide +kernel) cd_o5 rfl ?_
        refine pe_iconstv (n := 0) (v := 0) (by decide +kernel) (by decide +kernel) ?_
        refine pe_bipushv (n := 28) (v := 28) (by decide +kernel) (by decide +kernel) ?_
        have hl18 := kz_28
        have hl19 := kz_0
        have hl20 := kz_0
        refine cz_copy (j := 40) (a := 0) (b := 0) (c := 28) (by decide +kernel) (by decide +kernel) (Nat.le_of_ble_eq_true rfl) cd_a95 cd_a9 (by decide +kernel) (fun _ => cd_s9) hIA17 (cl_95 hIA17) (cl_9 hIA17) kz_0 kz_0 kz_28 (by omega) (by omega) (by omega) (by omega) (by omega) (Or.inl rfl) (ct_one (kd := 0) (P := fun kd => ∀ i, i < (28 : Int).toNat → CT kd ((0 : Int).toNat + i) ((A17 95).getD ((0 : Int).toNat + i) 0).toInt) (by decide +kernel) (fun i _ => ct_95 hIA17 rfl)) (fun A21 eA21 hIA21 => ?_)
        refine pe_vret (by decide +kernel) rfl ⟨rfl, rfl, ?_⟩
        show pmE pg X pg_tyl pg_cl (d + 1) 71 41 [.ref 1, .ref 87, .int x2] [] (cd f5 A21 R wr) _
        refine pz_iinc (j := 2) (n := 1) (by decide +kernel) rfl rfl (by decide +kernel) (by omega) (by omega) (fun z22 hz22 => ?_)
        show pmE pg X pg_tyl pg_cl (d + 1) 71 44 [.ref 1, .ref 87, .int z22] [] (cd f5 A21 R wr) _
        refine pe_goto (off := (-26)) (t := 18) (by decide +kernel) (by decide) rfl ?_
        exact ih f5 A21 z22 hIA21 (fun k n80 n81 n82 n160 n161 n162 => (upf_fr ef5 n82).trans ((upf_fr ef4 n81).trans ((upf_fr ef3 n80).trans ((hG k n80 n81 n82 n160 n161 n162))))) (fun k n6 n7 n8 n9 n11 n12 n13 n14 => (upa_fr eA21 n9).trans ((upa_fr eA17 n8).trans ((upa_fr eA13 n7).trans ((upa_fr eA9 n6).trans ((hF k n6 n7 n8 n9 n11 n12 n13 n14)))))) (by omega) (by omega)
      · skip
        refine pz_aald (q := 10) (t := 3) (n := 2) (i := 1) (C := "RingVillage$Village") (by decide +kernel) cd_q2 rfl rfl rfl (by omega) (by decide +kernel) rfl ?_
        refine pe_aload_n (j := 1) (by decide +kernel) rfl ?_
        refine pe_get (j := 11) (ci := 8) (n := 0) (by decide +kernel) (by decide +kernel) cd_o87 rfl ?_
        refine pe_iload_n (j := 2) (by decide +kernel) rfl ?_
        refine pz_aald (q := 96) (t := 3) (n := 2) (i := 1) (C := "RingVillage$Village") (by decide +kernel) cd_q88 rfl rfl rfl (by omega) (by decide +kernel) rfl ?_
        refine pi_V (j := 39) (mj := 56) (by decide +kernel) (cll_V (args := [.ref 96]) (n := 1) (by decide +kernel) rfl rfl cd_o10 (by decide +kernel) (Nat.le_of_ble_eq_true rfl) (Nat.le_of_ble_eq_true rfl)) ?_
        show pmE pg X pg_tyl pg_cl (d) 56 0 [.ref 10, .ref 96] [] (cd f A R wr) _
        refine pe_aload_n (j := 0) (by decide +kernel) rfl ?_
        refine pe_aload_n (j := 1) (by decide +kernel) rfl ?_
        refine pe_get (j := 9) (ci := 9) (n := 0) (by decide +kernel) (by decide +kernel) cd_o96 rfl ?_
        have hr_f_1536 := cf_1536 hI
        refine cz_put160 (jj := 9) (by decide +kernel) (by decide +kernel) hI (by omega) (by omega) (fun f23 ef23 hIf23 => ?_)
        refine pe_aload_n (j := 0) (by decide +kernel) rfl ?_
        refine pe_aload_n (j := 1) (by decide +kernel) rfl ?_
        refine pe_get (j := 28) (ci := 9) (n := 1) (by decide +kernel) (by decide +kernel) cd_o96 rfl ?_
        refine pe_top (v := (f 1537)) (upf_fr ef23 (by decide)) ?_
        refine cz_put161 (jj := 28) (by decide +kernel) (by decide +kernel) hIf23 (fun f24 ef24 hIf24 => ?_)
        refine pe_aload_n (j := 0) (by decide +kernel) rfl ?_
        refine pe_aload_n (j := 1) (by decide +kernel) rfl ?_
        refine pe_get (j := 31) (ci := 9) (n := 2) (by decide +kernel) (by decide +kernel) cd_o96 rfl ?_
        have hr_f_1538 := cf_1538 hI
        refine pe_top (v := (f 1538)) ((upf_fr ef24 (by decide)).trans (upf_fr ef23 (by decide))) ?_
        refine cz_put162 (jj := 31) (by decide +kernel) (by decide +kernel) hIf24 (by omega) (by omega) (fun f25 ef25 hIf25 => ?_)
        refine pe_aload_n (j := 1) (by decide +kernel) rfl ?_
        refine pe_get (j := 15) (ci := 9) (n := 3) (by decide +kernel) (by decide +kernel) cd_o96 rfl ?_
        refine pe_iconstv (n := 0) (v := 0) (by decide +kernel) (by decide +kernel) ?_
        refine pe_aload_n (j := 0) (by decide +kernel) rfl ?_
        refine pe_get (j := 15) (ci := 9) (n := 3) (by decide +kernel) (by decide +kernel) cd_o10 rfl ?_
        refine pe_iconstv (n := 0) (v := 0) (by decide +kernel) (by decide +kernel) ?_
        refine pe_bipushv (n := 81) (v := 81) (by decide +kernel) (by decide +kernel) ?_
        have hl26 := kz_81
        have hl27 := kz_0
        have hl28 := kz_0
        refine cz_copy (j := 40) (a := 0) (b := 0) (c := 81) (by decide +kernel) (by decide +kernel) (Nat.le_of_ble_eq_true rfl) cd_a97 cd_a11 (by decide +kernel) (fun _ => cd_s11) hIf25 (cl_97 hIf25) (cl_11 hIf25) kz_0 kz_0 kz_81 (by omega) (by omega) (by omega) (by omega) (by omega) (Or.inl rfl) (ct_no (by decide +kernel)) (fun A29 eA29 hIA29 => ?_)
        refine pe_aload_n (j := 1) (by decide +kernel) rfl ?_
        refine pe_get (j := 19) (ci := 9) (n := 4) (by decide +kernel) (by decide +kernel) cd_o96 rfl ?_
        refine pe_iconstv (n := 0) (v := 0) (by decide +kernel) (by decide +kernel) ?_
        refine pe_aload_n (j := 0) (by decide +kernel) rfl ?_
        refine pe_get (j := 19) (ci := 9) (n := 4) (by decide +kernel) (by decide +kernel) cd_o10 rfl ?_
        refine pe_iconstv (n := 0) (v := 0) (by decide +kernel) (by decide +kernel) ?_
        refine pe_bipushv (n := 9) (v := 9) (by decide +kernel) (by decide +kernel) ?_
        have hl30 := kz_9
        have hl31 := kz_0
        have hl32 := kz_0
        refine cz_copy (j := 40) (a := 0) (b := 0) (c := 9) (by decide +kernel) (by decide +kernel) (Nat.le_of_ble_eq_true rfl) cd_a98 cd_a12 (by decide +kernel) (fun _ => cd_s12) hIA29 (cl_98 hIA29) (cl_12 hIA29) kz_0 kz_0 kz_9 (by omega) (by omega) (by omega) (by omega) (by omega) (Or.inl rfl) (ct_no (by decide +kernel)) (fun A33 eA33 hIA33 => ?_)
        refine pe_aload_n (j := 1) (by decide +kernel) rfl ?_
        refine pe_get (j := 22) (ci := 9) (n := 5) (by decide +kernel) (by decide +kernel) cd_o96 rfl ?_
        refine pe_iconstv (n := 0) (v := 0) (by decide +kernel) (by decide +kernel) ?_
        refine pe_aload_n (j := 0) (by decide +kernel) rfl ?_
        refine pe_get (j := 22) (ci := 9) (n := 5) (by decide +kernel) (by decide +kernel) cd_o10 rfl ?_
        refine pe_iconstv (n := 0) (v := 0) (by decide +kernel) (by decide +kernel) ?_
        refine pe_bipushv (n := 9) (v := 9) (by decide +kernel) (by decide +kernel) ?_
        have hl34 := kz_9
        have hl35 := kz_0
        have hl36 := kz_0
        refine cz_copy (j := 40) (a := 0) (b := 0) (c := 9) (by decide +kernel) (by decide +kernel) (Nat.le_of_ble_eq_true rfl) cd_a99 cd_a13 (by decide +kernel) (fun _ => cd_s13) hIA33 (cl_99 hIA33) (cl_13 hIA33) kz_0 kz_0 kz_9 (by omega) (by omega) (by omega) (by omega) (by omega) (Or.inl rfl) (ct_no (by decide +kernel)) (fun A37 eA37 hIA37 => ?_)
        refine pe_aload_n (j := 1) (by decide +kernel) rfl ?_
        refine pe_get (j := 25) (ci := 9) (n := 6) (by decide +kernel) (by decide +kernel) cd_o96 rfl ?_
        refine pe_iconstv (n := 0) (v := 0) (by decide +kernel) (by decide +kernel) ?_
        refine pe_aload_n (j := 0) (by decide +kernel) rfl ?_
        refine pe_get (j := 25) (ci := 9) (n := 6) (by decide +kernel) (by decide +kernel) cd_o10 rfl ?_
        refine pe_iconstv (n := 0) (v := 0) (by decide +kernel) (by decide +kernel) ?_
        refine pe_bipushv (n := 28) (v := 28) (by decide +kernel) (by decide +kernel) ?_
        have hl38 := kz_28
        have hl39 := kz_0
        have hl40 := kz_0
        refine cz_copy (j := 40) (a := 0) (b := 0) (c := 28) (by decide +kernel) (by decide +kernel) (Nat.le_of_ble_eq_true rfl) cd_a100 cd_a14 (by decide +kernel) (fun _ => cd_s14) hIA37 (cl_100 hIA37) (cl_14 hIA37) kz_0 kz_0 kz_28 (by omega) (by omega) (by omega) (by omega) (by omega) (Or.inl rfl) (ct_one (kd := 0) (P := fun kd => ∀ i, i < (28 : Int).toNat → CT kd ((0 : Int).toNat + i) ((A37 100).getD ((0 : Int).toNat + i) 0).toInt) (by decide +kernel) (fun i _ => ct_100 hIA37 rfl)) (fun A41 eA41 hIA41 => ?_)
        refine pe_vret (by decide +kernel) rfl ⟨rfl, rfl, ?_⟩
        show pmE pg X pg_tyl pg_cl (d + 1) 71 41 [.ref 1, .ref 87, .int x2] [] (cd f25 A41 R wr) _
        refine pz_iinc (j := 2) (n := 1) (by decide +kernel) rfl rfl (by decide +kernel) (by omega) (by omega) (fun z42 hz42 => ?_)
        show pmE pg X pg_tyl pg_cl (d + 1) 71 44 [.ref 1, .ref 87, .int z42] [] (cd f25 A41 R wr) _
        refine pe_goto (off := (-26)) (t := 18) (by decide +kernel) (by decide) rfl ?_
        exact ih f25 A41 z42 hIA41 (fun k n80 n81 n82 n160 n161 n162 => (upf_fr ef25 n162).trans ((upf_fr ef24 n161).trans ((upf_fr ef23 n160).trans ((hG k n80 n81 n82 n160 n161 n162))))) (fun k n6 n7 n8 n9 n11 n12 n13 n14 => (upa_fr eA41 n14).trans ((upa_fr eA37 n13).trans ((upa_fr eA33 n12).trans ((upa_fr eA29 n11).trans ((hF k n6 n7 n8 n9 n11 n12 n13 n14)))))) (by omega) (by omega)
set_option maxRecDepth 100000 in
set_option maxHeartbeats 8000000 in
theorem CM_71_3 {X : pm_X} {d : Nat} {wr : pm_W} {f : Nat → Int32} {A : Nat → List Int32} {R : Nat → Value} (hX : XO X) (hI : CI f A R) : pmE pg X pg_tyl pg_cl (d + 1) 71 0 (pm_ent (pm_max pg 71) [.ref 1, .ref 87]) [] (cd f A R wr) (fun q => ∃ (f' : Nat → Int32) (A' : Nat → List Int32), q = (none, cd f' A' R wr, 0, 0) ∧ CI f' A' R ∧ (∀ k : Nat, k ≠ 18 → k ≠ 19 → k ≠ 21 → k ≠ 22 → k ≠ 23 → k ≠ 80 → k ≠ 81 → k ≠ 82 → k ≠ 160 → k ≠ 161 → k ≠ 162 → k ≠ 240 → k ≠ 272 → k ≠ 304 → f' k = f k) ∧ (∀ k : Nat, k ≠ 4 → k ≠ 6 → k ≠ 7 → k ≠ 8 → k ≠ 9 → k ≠ 11 → k ≠ 12 → k ≠ 13 → k ≠ 14 → k ≠ 16 → k ≠ 18 → k ≠ 20 → A' k = A k) ∧ ((f' 21).toInt + (-1) * (f 1397).toInt) ≤ 0 ∧ ((-1) * (f' 21).toInt + (f 1397).toInt) ≤ 0 ∧ ((True))) := by
  show pmE pg X pg_tyl pg_cl (d + 1) 71 0 [.ref 1, .ref 87, pm_dead] [] (cd f A R wr) _
  refine pe_aload_n (j := 0) (by decide +kernel) rfl ?_
  refine pe_aload_n (j := 1) (by decide +kernel) rfl ?_
  refine pe_get (j := 33) (ci := 8) (n := 2) (by decide +kernel) (by decide +kernel) cd_o87 rfl ?_
  have hr_f_1394 := cf_1394 hI
  refine cz_put18 (jj := 33) (by decide +kernel) (by decide +kernel) hI (by omega) (by omega) (fun f1 ef1 hIf1 => ?_)
  refine pe_aload_n (j := 0) (by decide +kernel) rfl ?_
  refine pe_aload_n (j := 1) (by decide +kernel) rfl ?_
  refine pe_get (j := 36) (ci := 8) (n := 3) (by decide +kernel) (by decide +kernel) cd_o87 rfl ?_
  have hr_f_1395 := cf_1395 hI
  refine pe_top (v := (f 1395)) (upf_fr ef1 (by decide)) ?_
  refine cz_put19 (jj := 36) (by decide +kernel) (by decide +kernel) hIf1 (by omega) (by omega) (fun f2 ef2 hIf2 => ?_)
  refine pe_iconstv (n := 0) (v := 0) (by decide +kernel) (by decide +kernel) ?_
  refine pe_istore_n (j := 2) (ls' := [.ref 1, .ref 87, .int 0]) (by decide +kernel) (Nat.le_of_ble_eq_true rfl) rfl ?_
  refine CL_71_3_18 hX (fun f3 A4 y5 hIy6 hGf3 hFA4 gy5 => ?_) 3 f2 A 0 hIf2 (fun k _ _ _ _ _ _ => rfl) (fun k _ _ _ _ _ _ _ _ => rfl) (by decide +kernel) (by decide +kernel)
  refine pe_iconstv (n := 0) (v := 0) (by decide +kernel) (by decide +kernel) ?_
  refine pe_istore_n (j := 2) (ls' := [.ref 1, .ref 87, .int 0]) (by decide +kernel) (Nat.le_of_ble_eq_true rfl) rfl ?_
  refine CL_71_3_49 hX (fun f7 A8 y9 hIy10 hGf7 hFA8 gy9 => ?_) 4 f3 A4 0 hIy6 (fun k _ _ _ => rfl) (fun k _ _ _ => rfl) (by decide +kernel) (by decide +kernel)
  refine pe_aload_n (j := 0) (by decide +kernel) rfl ?_
  refine pe_aload_n (j := 1) (by decide +kernel) rfl ?_
  refine pe_get (j := 46) (ci := 8) (n := 5) (by decide +kernel) (by decide +kernel) cd_o87 rfl ?_
  have hr_f_1397 := cf_1397 hI
  refine pe_top (v := (f 1397)) (((hGf7 1397 (by decide) (by decide) (by decide))).trans (((hGf3 1397 (by decide) (by decide) (by decide) (by decide) (by decide) (by decide))).trans ((upf_fr ef2 (by decide)).trans (upf_fr ef1 (by decide))))) ?_
  refine cz_put21 (jj := 46) (by decide +kernel) (by decide +kernel) hIy10 (by omega) (by omega) (fun f11 ef11 hIf11 => ?_)
  refine pe_aload_n (j := 1) (by decide +kernel) rfl ?_
  refine pe_get (j := 23) (ci := 8) (n := 4) (by decide +kernel) (by decide +kernel) cd_o87 rfl ?_
  refine pe_iconstv (n := 0) (v := 0) (by decide +kernel) (by decide +kernel) ?_
  refine pe_aload_n (j := 0) (by decide +kernel) rfl ?_
  refine pe_get (j := 23) (ci := 8) (n := 4) (by decide +kernel) (by decide +kernel) cd_o1 rfl ?_
  refine pe_iconstv (n := 0) (v := 0) (by decide +kernel) (by decide +kernel) ?_
  refine pe_aload_n (j := 0) (by decide +kernel) rfl ?_
  refine pe_get (j := 46) (ci := 8) (n := 5) (by decide +kernel) (by decide +kernel) cd_o1 rfl ?_
  refine pe_top (v := (f 1397)) (upf_at ef11) ?_
  have hl12 := kz_0
  have hl13 := kz_0
  refine cz_copy (j := 49) (a := 0) (b := 0) (c := (f 1397).toInt) (by decide +kernel) (by decide +kernel) (Nat.le_of_ble_eq_true rfl) cd_a90 cd_a4 (by decide +kernel) (fun _ => cd_s4) hIf11 (cl_90 hIf11) (cl_4 hIf11) kz_0 kz_0 rfl (by omega) (by omega) (by omega) (by omega) (by omega) (Or.inr (fun i => fits_b (ct_90 hIf11 rfl))) (ct_one (kd := 7) (P := fun kd => ∀ i, i < ((f 1397).toInt : Int).toNat → CT kd ((0 : Int).toNat + i) ((A8 90).getD ((0 : Int).toNat + i) 0).toInt) (by decide +kernel) (fun i _ => ct_90 hIf11 rfl)) (fun A14 eA14 hIA14 => ?_)
  refine pe_aload_n (j := 0) (by decide +kernel) rfl ?_
  refine pe_aload_n (j := 1) (by decide +kernel) rfl ?_
  refine pe_get (j := 55) (ci := 8) (n := 6) (by decide +kernel) (by decide +kernel) cd_o87 rfl ?_
  refine pe_top (v := (f 1398)) ((upf_fr ef11 (by decide)).trans (((hGf7 1398 (by decide) (by decide) (by decide))).trans (((hGf3 1398 (by decide) (by decide) (by decide) (by decide) (by decide) (by decide))).trans ((upf_fr ef2 (by decide)).trans (upf_fr ef1 (by decide)))))) ?_
  refine cz_put22 (jj := 55) (by decide +kernel) (by decide +kernel) hIA14 (fun f15 ef15 hIf15 => ?_)
  refine pe_aload_n (j := 0) (by decide +kernel) rfl ?_
  refine pe_aload_n (j := 1) (by decide +kernel) rfl ?_
  refine pe_get (j := 27) (ci := 8) (n := 7) (by decide +kernel) (by decide +kernel) cd_o87 rfl ?_
  refine pe_top (v := (f 1399)) ((upf_fr ef15 (by decide)).trans ((upf_fr ef11 (by decide)).trans (((hGf7 1399 (by decide) (by decide) (by decide))).trans (((hGf3 1399 (by decide) (by decide) (by decide) (by decide) (by decide) (by decide))).trans ((upf_fr ef2 (by decide)).trans (upf_fr ef1 (by decide))))))) ?_
  refine cz_put23 (jj := 27) (by decide +kernel) (by decide +kernel) hIf15 (fun f16 ef16 hIf16 => ?_)
  have hx17 : (f16 1397).toInt = (f 1397).toInt := (congrArg Int32.toInt (show f16 1397 = (f 1397) from (upf_fr ef16 (by decide)).trans ((upf_fr ef15 (by decide)).trans ((upf_fr ef11 (by decide)).trans (((hGf7 1397 (by decide) (by decide) (by decide))).trans (((hGf3 1397 (by decide) (by decide) (by decide) (by decide) (by decide) (by decide))).trans ((upf_fr ef2 (by decide)).trans (upf_fr ef1 (by decide))))))))).trans rfl
  have hx18 : (f16 21).toInt = (f 1397).toInt := (congrArg Int32.toInt (show f16 21 = (f 1397) from (upf_fr ef16 (by decide)).trans ((upf_fr ef15 (by decide)).trans (upf_at ef11)))).trans rfl
  have hx19 : (f16 1397).toInt = (f 1397).toInt := (congrArg Int32.toInt (show f16 1397 = (f 1397) from (upf_fr ef16 (by decide)).trans ((upf_fr ef15 (by decide)).trans ((upf_fr ef11 (by decide)).trans (((hGf7 1397 (by decide) (by decide) (by decide))).trans (((hGf3 1397 (by decide) (by decide) (by decide) (by decide) (by decide) (by decide))).trans ((upf_fr ef2 (by decide)).trans (upf_fr ef1 (by decide))))))))).trans rfl
  have hx20 : (f16 21).toInt = (f 1397).toInt := (congrArg Int32.toInt (show f16 21 = (f 1397) from (upf_fr ef16 (by decide)).trans ((upf_fr ef15 (by decide)).trans (upf_at ef11)))).trans rfl
  exact pe_vret (by decide +kernel) rfl ⟨f16, A14, rfl, hIf16, (fun k n18 n19 n21 n22 n23 n80 n81 n82 n160 n161 n162 n240 n272 n304 => (upf_fr ef16 n23).trans ((upf_fr ef15 n22).trans ((upf_fr ef11 n21).trans (((hGf7 k n240 n272 n304)).trans (((hGf3 k n80 n81 n82 n160 n161 n162)).trans ((upf_fr ef2 n19).trans (upf_fr ef1 n18))))))), (fun k n4 n6 n7 n8 n9 n11 n12 n13 n14 n16 n18 n20 => (upa_fr eA14 n4).trans (((hFA8 k n16 n18 n20)).trans ((hFA4 k n6 n7 n8 n9 n11 n12 n13 n14)))), (by omega), (by omega), trivial⟩
set_option maxRecDepth 100000 in
set_option maxHeartbeats 8000000 in
theorem CL_71_4_49 {X : pm_X} {d : Nat} {wr : pm_W} {Q : pm_R → Prop} {f0 : Nat → Int32} {A0 : Nat → List Int32} {R : Nat → Value} (hX : XO X) (k_78_0 : ∀ (f' : Nat → Int32) (A' : Nat → List Int32) (y2 : Int32), CI f' A' R → (∀ k : Nat, k ≠ 240 → k ≠ 272 → k ≠ 304 → f' k = f0 k) → (∀ k : Nat, k ≠ 16 → k ≠ 18 → k ≠ 20 → A' k = A0 k) → (0 ≤ y2.toInt ∧ y2.toInt ≤ 3) → pmE pg X pg_tyl pg_cl (d + 1) 71 78 [.ref 1, .ref 107, .int y2] [] (cd f' A' R wr) Q) : ∀ (m : Nat) (f : Nat → Int32) (A : Nat → List Int32) (x2 : Int32), CI f A R → (∀ k : Nat, k ≠ 240 → k ≠ 272 → k ≠ 304 → f k = f0 k) → (∀ k : Nat, k ≠ 16 → k ≠ 18 → k ≠ 20 → A k = A0 k) → (0 ≤ x2.toInt ∧ x2.toInt ≤ 3) → 3 - x2.toInt < (m : Int) → pmE pg X pg_tyl pg_cl (d + 1) 71 49 [.ref 1, .ref 107, .int x2] [] (cd f A R wr) Q := by
  intro m
  induction m with
  | zero =>
    intro f A x2 hI hG hF gx2 hm
    exfalso
    have l0 := zi_lo x2
    have u0 := zi_hi x2
    omega
  | succ m ih =>
    intro f A x2 hI hG hF gx2 hm
    refine pe_iload_n (j := 2) (by decide +kernel) rfl ?_
    refine pe_aload_n (j := 0) (by decide +kernel) rfl ?_
    refine pe_get (j := 36) (ci := 8) (n := 3) (by decide +kernel) (by decide +kernel) cd_o1 rfl ?_
    have hr_f_19 := cf_19 hI
    refine pz_icmp_ge (off := 24) (t := 78) (by decide +kernel) (by decide) rfl rfl rfl (fun h1 => ?_) (fun h1 => ?_)
    · skip
      exact k_78_0 f A x2 hI (fun k n240 n272 n304 => (hG k n240 n272 n304)) (fun k n16 n18 n20 => (hF k n16 n18 n20)) (by omega)
    · skip
      refine pe_aload_n (j := 0) (by decide +kernel) rfl ?_
      refine pe_get (j := 19) (ci := 8) (n := 1) (by decide +kernel) (by decide +kernel) cd_o1 rfl ?_
      refine pe_iload_n (j := 2) (by decide +kernel) rfl ?_
      by_cases h2 : x2.toInt = 0
      · skip
        refine pz_aald (q := 15) (t := 4) (n := 3) (i := 0) (C := "RingVillage$Row") (by decide +kernel) cd_q3 rfl rfl rfl (by omega) (by decide +kernel) rfl ?_
        refine pe_aload_n (j := 1) (by decide +kernel) rfl ?_
        refine pe_get (j := 19) (ci := 8) (n := 1) (by decide +kernel) (by decide +kernel) cd_o107 rfl ?_
        refine pe_iload_n (j := 2) (by decide +kernel) rfl ?_
        refine pz_aald (q := 121) (t := 4) (n := 3) (i := 0) (C := "RingVillage$Row") (by decide +kernel) cd_q109 rfl rfl rfl (by omega) (by decide +kernel) rfl ?_
        refine pi_V (j := 43) (mj := 57) (by decide +kernel) (cll_V (args := [.ref 121]) (n := 1) (by decide +kernel) rfl rfl cd_o15 (by decide +kernel) (Nat.le_of_ble_eq_true rfl) (Nat.le_of_ble_eq_true rfl)) ?_
        show pmE pg X pg_tyl pg_cl (d) 57 0 [.ref 15, .ref 121] [] (cd f A R wr) _
        refine pe_aload_n (j := 0) (by decide +kernel) rfl ?_
        refine pe_aload_n (j := 1) (by decide +kernel) rfl ?_
        refine pe_get (j := 15) (ci := 5) (n := 0) (by decide +kernel) (by decide +kernel) cd_o121 rfl ?_
        have hr_f_1936 := cf_1936 hI
        refine cz_put240 (jj := 15) (by decide +kernel) (by decide +kernel) hI (by omega) (by omega) (fun f3 ef3 hIf3 => ?_)
        refine pe_aload_n (j := 1) (by decide +kernel) rfl ?_
        refine pe_get (j := 9) (ci := 5) (n := 1) (by decide +kernel) (by decide +kernel) cd_o121 rfl ?_
        refine pe_iconstv (n := 0) (v := 0) (by decide +kernel) (by decide +kernel) ?_
        refine pe_aload_n (j := 0) (by decide +kernel) rfl ?_
        refine pe_get (j := 9) (ci := 5) (n := 1) (by decide +kernel) (by decide +kernel) cd_o15 rfl ?_
        refine pe_iconstv (n := 0) (v := 0) (by decide +kernel) (by decide +kernel) ?_
        refine pe_sipushv (n := 270) (v := 270) (by decide +kernel) (by decide +kernel) ?_
        have hl4 := kz_270
        have hl5 := kz_0
        have hl6 := kz_0
        refine cz_copy (j := 19) (a := 0) (b := 0) (c := 270) (by decide +kernel) (by decide +kernel) (Nat.le_of_ble_eq_true rfl) cd_a122 cd_a16 (by decide +kernel) (fun _ => cd_s16) hIf3 (cl_122 hIf3) (cl_16 hIf3) kz_0 kz_0 kz_270 (by omega) (by omega) (by omega) (by omega) (by omega) (Or.inl rfl) (ct_no (by decide +kernel)) (fun A7 eA7 hIA7 => ?_)
        refine pe_vret (by decide +kernel) rfl ⟨rfl, rfl, ?_⟩
        show pmE pg X pg_tyl pg_cl (d + 1) 71 72 [.ref 1, .ref 107, .int x2] [] (cd f3 A7 R wr) _
        refine pz_iinc (j := 2) (n := 1) (by decide +kernel) rfl rfl (by decide +kernel) (by omega) (by omega) (fun z8 hz8 => ?_)
        show pmE pg X pg_tyl pg_cl (d + 1) 71 75 [.ref 1, .ref 107, .int z8] [] (cd f3 A7 R wr) _
        refine pe_goto (off := (-26)) (t := 49) (by decide +kernel) (by decide) rfl ?_
        exact ih f3 A7 z8 hIA7 (fun k n240 n272 n304 => (upf_fr ef3 n240).trans ((hG k n240 n272 n304))) (fun k n16 n18 n20 => (upa_fr eA7 n16).trans ((hF k n16 n18 n20))) (by omega) (by omega)
      · skip
        by_cases h9 : x2.toInt = 1
        · skip
          refine pz_aald (q := 17) (t := 4) (n := 3) (i := 1) (C := "RingVillage$Row") (by decide +kernel) cd_q3 rfl rfl rfl (by omega) (by decide +kernel) rfl ?_
          refine pe_aload_n (j := 1) (by decide +kernel) rfl ?_
          refine pe_get (j := 19) (ci := 8) (n := 1) (by decide +kernel) (by decide +kernel) cd_o107 rfl ?_
          refine pe_iload_n (j := 2) (by decide +kernel) rfl ?_
          refine pz_aald (q := 123) (t := 4) (n := 3) (i := 1) (C := "RingVillage$Row") (by decide +kernel) cd_q109 rfl rfl rfl (by omega) (by decide +kernel) rfl ?_
          refine pi_V (j := 43) (mj := 57) (by decide +kernel) (cll_V (args := [.ref 123]) (n := 1) (by decide +kernel) rfl rfl cd_o17 (by decide +kernel) (Nat.le_of_ble_eq_true rfl) (Nat.le_of_ble_eq_true rfl)) ?_
          show pmE pg X pg_tyl pg_cl (d) 57 0 [.ref 17, .ref 123] [] (cd f A R wr) _
          refine pe_aload_n (j := 0) (by decide +kernel) rfl ?_
          refine pe_aload_n (j := 1) (by decide +kernel) rfl ?_
          refine pe_get (j := 15) (ci := 5) (n := 0) (by decide +kernel) (by decide +kernel) cd_o123 rfl ?_
          have hr_f_1968 := cf_1968 hI
          refine cz_put272 (jj := 15) (by decide +kernel) (by decide +kernel) hI (by omega) (by omega) (fun f10 ef10 hIf10 => ?_)
          refine pe_aload_n (j := 1) (by decide +kernel) rfl ?_
          refine pe_get (j := 9) (ci := 5) (n := 1) (by decide +kernel) (by decide +kernel) cd_o123 rfl ?_
          refine pe_iconstv (n := 0) (v := 0) (by decide +kernel) (by decide +kernel) ?_
          refine pe_aload_n (j := 0) (by decide +kernel) rfl ?_
          refine pe_get (j := 9) (ci := 5) (n := 1) (by decide +kernel) (by decide +kernel) cd_o17 rfl ?_
          refine pe_iconstv (n := 0) (v := 0) (by decide +kernel) (by decide +kernel) ?_
          refine pe_sipushv (n := 270) (v := 270) (by decide +kernel) (by decide +kernel) ?_
          have hl11 := kz_270
          have hl12 := kz_0
          have hl13 := kz_0
          refine cz_copy (j := 19) (a := 0) (b := 0) (c := 270) (by decide +kernel) (by decide +kernel) (Nat.le_of_ble_eq_true rfl) cd_a124 cd_a18 (by decide +kernel) (fun _ => cd_s18) hIf10 (cl_124 hIf10) (cl_18 hIf10) kz_0 kz_0 kz_270 (by omega) (by omega) (by omega) (by omega) (by omega) (Or.inl rfl) (ct_no (by decide +kernel)) (fun A14 eA14 hIA14 => ?_)
          refine pe_vret (by decide +kernel) rfl ⟨rfl, rfl, ?_⟩
          show pmE pg X pg_tyl pg_cl (d + 1) 71 72 [.ref 1, .ref 107, .int x2] [] (cd f10 A14 R wr) _
          refine pz_iinc (j := 2) (n := 1) (by decide +kernel) rfl rfl (by decide +kernel) (by omega) (by omega) (fun z15 hz15 => ?_)
          show pmE pg X pg_tyl pg_cl (d + 1) 71 75 [.ref 1, .ref 107, .int z15] [] (cd f10 A14 R wr) _
          refine pe_goto (off := (-26)) (t := 49) (by decide +kernel) (by decide) rfl ?_
          exact ih f10 A14 z15 hIA14 (fun k n240 n272 n304 => (upf_fr ef10 n272).trans ((hG k n240 n272 n304))) (fun k n16 n18 n20 => (upa_fr eA14 n18).trans ((hF k n16 n18 n20))) (by omega) (by omega)
        · skip
          refine pz_aald (q := 19) (t := 4) (n := 3) (i := 2) (C := "RingVillage$Row") (by decide +kernel) cd_q3 rfl rfl rfl (by omega) (by decide +kernel) rfl ?_
          refine pe_aload_n (j := 1) (by decide +kernel) rfl ?_
          refine pe_get (j := 19) (ci := 8) (n := 1) (by decide +kernel) (by decide +kernel) cd_o107 rfl ?_
          refine pe_iload_n (j := 2) (by decide +kernel) rfl ?_
          refine pz_aald (q := 125) (t := 4) (n := 3) (i := 2) (C := "RingVillage$Row") (by decide +kernel) cd_q109 rfl rfl rfl (by omega) (by decide +kernel) rfl ?_
          refine pi_V (j := 43) (mj := 57) (by decide +kernel) (cll_V (args := [.ref 125]) (n := 1) (by decide +kernel) rfl rfl cd_o19 (by decide +kernel) (Nat.le_of_ble_eq_true rfl) (Nat.le_of_ble_eq_true rfl)) ?_
          show pmE pg X pg_tyl pg_cl (d) 57 0 [.ref 19, .ref 125] [] (cd f A R wr) _
          refine pe_aload_n (j := 0) (by decide +kernel) rfl ?_
          refine pe_aload_n (j := 1) (by decide +kernel) rfl ?_
          refine pe_get (j := 15) (ci := 5) (n := 0) (by decide +kernel) (by decide +kernel) cd_o125 rfl ?_
          have hr_f_2000 := cf_2000 hI
          refine cz_put304 (jj := 15) (by decide +kernel) (by decide +kernel) hI (by omega) (by omega) (fun f16 ef16 hIf16 => ?_)
          refine pe_aload_n (j := 1) (by decide +kernel) rfl ?_
          refine pe_get (j := 9) (ci := 5) (n := 1) (by decide +kernel) (by decide +kernel) cd_o125 rfl ?_
          refine pe_iconstv (n := 0) (v := 0) (by decide +kernel) (by decide +kernel) ?_
          refine pe_aload_n (j := 0) (by decide +kernel) rfl ?_
          refine pe_get (j := 9) (ci := 5) (n := 1) (by decide +kernel) (by decide +kernel) cd_o19 rfl ?_
          refine pe_iconstv (n := 0) (v := 0) (by decide +kernel) (by decide +kernel) ?_
          refine pe_sipushv (n := 270) (v := 270) (by decide +kernel) (by decide +kernel) ?_
          have hl17 := kz_270
          have hl18 := kz_0
          have hl19 := kz_0
          refine cz_copy (j := 19) (a := 0) (b := 0) (c := 270) (by decide +kernel) (by decide +kernel) (Nat.le_of_ble_eq_true rfl) cd_a126 cd_a20 (by decide +kernel) (fun _ => cd_s20) hIf16 (cl_126 hIf16) (cl_20 hIf16) kz_0 kz_0 kz_270 (by omega) (by omega) (by omega) (by omega) (by omega) (Or.inl rfl) (ct_no (by decide +kernel)) (fun A20 eA20 hIA20 => ?_)
          refine pe_vret (by decide +kernel) rfl ⟨rfl, rfl, ?_⟩
          show pmE pg X pg_tyl pg_cl (d + 1) 71 72 [.ref 1, .ref 107, .int x2] [] (cd f16 A20 R wr) _
          refine pz_iinc (j := 2) (n := 1) (by decide +kernel) rfl rfl (by decide +kernel) (by omega) (by omega) (fun z21 hz21 => ?_)
          show pmE pg X pg_tyl pg_cl (d + 1) 71 75 [.ref 1, .ref 107, .int z21] [] (cd f16 A20 R wr) _
          refine pe_goto (off := (-26)) (t := 49) (by decide +kernel) (by decide) rfl ?_
          exact ih f16 A20 z21 hIA20 (fun k n240 n272 n304 => (upf_fr ef16 n304).trans ((hG k n240 n272 n304))) (fun k n16 n18 n20 => (upa_fr eA20 n20).trans ((hF k n16 n18 n20))) (by omega) (by omega)
set_option maxRecDepth 100000 in
set_option maxHeartbeats 8000000 in
theorem CL_71_4_18 {X : pm_X} {d : Nat} {wr : pm_W} {Q : pm_R → Prop} {f0 : Nat → Int32} {A0 : Nat → List Int32} {R : Nat → Value} (hX : XO X) (k_47_0 : ∀ (f' : Nat → Int32) (A' : Nat → List Int32) (y2 : Int32), CI f' A' R → (∀ k : Nat, k ≠ 80 → k ≠ 81 → k ≠ 82 → k ≠ 160 → k ≠ 161 → k ≠ 162 → f' k = f0 k) → (∀ k : Nat, k ≠ 6 → k ≠ 7 → k ≠ 8 → k ≠ 9 → k ≠ 11 → k ≠ 12 → k ≠ 13 → k ≠ 14 → A' k = A0 k) → (0 ≤ y2.toInt ∧ y2.toInt ≤ 2) → pmE pg X pg_tyl pg_cl (d + 1) 71 47 [.ref 1, .ref 107, .int y2] [] (cd f' A' R wr) Q) : ∀ (m : Nat) (f : Nat → Int32) (A : Nat → List Int32) (x2 : Int32), CI f A R → (∀ k : Nat, k ≠ 80 → k ≠ 81 → k ≠ 82 → k ≠ 160 → k ≠ 161 → k ≠ 162 → f k = f0 k) → (∀ k : Nat, k ≠ 6 → k ≠ 7 → k ≠ 8 → k ≠ 9 → k ≠ 11 → k ≠ 12 → k ≠ 13 → k ≠ 14 → A k = A0 k) → (0 ≤ x2.toInt ∧ x2.toInt ≤ 2) → 2 - x2.toInt < (m : Int) → pmE pg X pg_tyl pg_cl (d + 1) 71 18 [.ref 1, .ref 107, .int x2] [] (cd f A R wr) Q := by
  intro m
  induction m with
  | zero =>
    intro f A x2 hI hG hF gx2 hm
    exfalso
    have l0 := zi_lo x2
    have u0 := zi_hi x2
    omega
  | succ m ih =>
    intro f A x2 hI hG hF gx2 hm
    refine pe_iload_n (j := 2) (by decide +kernel) rfl ?_
    refine pe_aload_n (j := 0) (by decide +kernel) rfl ?_
    refine pe_get (j := 33) (ci := 8) (n := 2) (by decide +kernel) (by decide +kernel) cd_o1 rfl ?_
    have hr_f_18 := cf_18 hI
    refine pz_icmp_ge (off := 24) (t := 47) (by decide +kernel) (by decide) rfl rfl rfl (fun h1 => ?_) (fun h1 => ?_)
    · skip
      exact k_47_0 f A x2 hI (fun k n80 n81 n82 n160 n161 n162 => (hG k n80 n81 n82 n160 n161 n162)) (fun k n6 n7 n8 n9 n11 n12 n13 n14 => (hF k n6 n7 n8 n9 n11 n12 n13 n14)) (by omega)
    · skip
      refine pe_aload_n (j := 0) (by decide +kernel) rfl ?_
      refine pe_get (j := 11) (ci := 8) (n := 0) (by decide +kernel) (by decide +kernel) cd_o1 rfl ?_
      refine pe_iload_n (j := 2) (by decide +kernel) rfl ?_
      by_cases h2 : x2.toInt = 0
      · skip
        refine pz_aald (q := 5) (t := 3) (n := 2) (i := 0) (C := "RingVillage$Village") (by decide +kernel) cd_q2 rfl rfl rfl (by omega) (by decide +kernel) rfl ?_
        refine pe_aload_n (j := 1) (by decide +kernel) rfl ?_
        refine pe_get (j := 11) (ci := 8) (n := 0) (by decide +kernel) (by decide +kernel) cd_o107 rfl ?_
        refine pe_iload_n (j := 2) (by decide +kernel) rfl ?_
        refine pz_aald (q := 111) (t := 3) (n := 2) (i := 0) (C := "RingVillage$Village") (by decide +kernel) cd_q108 rfl rfl rfl (by omega) (by decide +kernel) rfl ?_
        refine pi_V (j := 39) (mj := 56) (by decide +kernel) (cll_V (args := [.ref 111]) (n := 1) (by decide +kernel) rfl rfl cd_o5 (by decide +kernel) (Nat.le_of_ble_eq_true rfl) (Nat.le_of_ble_eq_true rfl)) ?_
        show pmE pg X pg_tyl pg_cl (d) 56 0 [.ref 5, .ref 111] [] (cd f A R wr) _
        refine pe_aload_n (j := 0) (by decide +kernel) rfl ?_
        refine pe_aload_n (j := 1) (by decide +kernel) rfl ?_
        refine pe_get (j := 9) (ci := 9) (n := 0) (by decide +kernel) (by decide +kernel) cd_o111 rfl ?_
        have hr_f_1776 := cf_1776 hI
        refine cz_put80 (jj := 9) (by decide +kernel) (by decide +kernel) hI (by omega) (by omega) (fun f3 ef3 hIf3 => ?_)
        refine pe_aload_n (j := 0) (by decide +kernel) rfl ?_
        refine pe_aload_n (j := 1) (by decide +kernel) rfl ?_
        refine pe_get (j := 28) (ci := 9) (n := 1) (by decide +kernel) (by decide +kernel) cd_o111 rfl ?_
        refine pe_top (v := (f 1777)) (upf_fr ef3 (by decide)) ?_
        refine cz_put81 (jj := 28) (by decide +kernel) (by decide +kernel) hIf3 (fun f4 ef4 hIf4 => ?_)
        refine pe_aload_n (j := 0) (by decide +kernel) rfl ?_
        refine pe_aload_n (j := 1) (by decide +kernel) rfl ?_
        refine pe_get (j := 31) (ci := 9) (n := 2) (by decide +kernel) (by decide +kernel) cd_o111 rfl ?_
        have hr_f_1778 := cf_1778 hI
        refine pe_top (v := (f 1778)) ((upf_fr ef4 (by decide)).trans (upf_fr ef3 (by decide))) ?_
        refine cz_put82 (jj := 31) (by decide +kernel) (by decide +kernel) hIf4 (by omega) (by omega) (fun f5 ef5 hIf5 => ?_)
        refine pe_aload_n (j := 1) (by decide +kernel) rfl ?_
        refine pe_get (j := 15) (ci := 9) (n := 3) (by decide +kernel) (by decide +kernel) cd_o111 rfl ?_
        refine pe_iconstv (n := 0) (v := 0) (by decide +kernel) (by decide +kernel) ?_
        refine pe_aload_n (j := 0) (by decide +kernel) rfl ?_
        refine pe_get (j := 15) (ci := 9) (n := 3) (by decide +kernel) (by decide +kernel) cd_o5 rfl ?_
        refine pe_iconstv (n := 0) (v := 0) (by decide +kernel) (by decide +kernel) ?_
        refine pe_bipushv (n := 81) (v := 81) (by decide +kernel) (by decide +kernel) ?_
        have hl6 := kz_81
        have hl7 := kz_0
        have hl8 := kz_0
        refine cz_copy (j := 40) (a := 0) (b := 0) (c := 81) (by decide +kernel) (by decide +kernel) (Nat.le_of_ble_eq_true rfl) cd_a112 cd_a6 (by decide +kernel) (fun _ => cd_s6) hIf5 (cl_112 hIf5) (cl_6 hIf5) kz_0 kz_0 kz_81 (by omega) (by omega) (by omega) (by omega) (by omega) (Or.inl rfl) (ct_no (by decide +kernel)) (fun A9 eA9 hIA9 => ?_)
        refine pe_aload_n (j := 1) (by decide +kernel) rfl ?_
        refine pe_get (j := 19) (ci := 9) (n := 4) (by decide +kernel) (by decide +kernel) cd_o111 rfl ?_
        refine pe_iconstv (n := 0) (v := 0) (by decide +kernel) (by decide +kernel) ?_
        refine pe_aload_n (j := 0) (by decide +kernel) rfl ?_
        refine pe_get (j := 19) (ci := 9) (n := 4) (by decide +kernel) (by decide +kernel) cd_o5 rfl ?_
        refine pe_iconstv (n := 0) (v := 0) (by decide +kernel) (by decide +kernel) ?_
        refine pe_bipushv (n := 9) (v := 9) (by decide +kernel) (by decide +kernel) ?_
        have hl10 := kz_9
        have hl11 := kz_0
        have hl12 := kz_0
        refine cz_copy (j := 40) (a := 0) (b := 0) (c := 9) (by decide +kernel) (by decide +kernel) (Nat.le_of_ble_eq_true rfl) cd_a113 cd_a7 (by decide +kernel) (fun _ => cd_s7) hIA9 (cl_113 hIA9) (cl_7 hIA9) kz_0 kz_0 kz_9 (by omega) (by omega) (by omega) (by omega) (by omega) (Or.inl rfl) (ct_no (by decide +kernel)) (fun A13 eA13 hIA13 => ?_)
        refine pe_aload_n (j := 1) (by decide +kernel) rfl ?_
        refine pe_get (j := 22) (ci := 9) (n := 5) (by decide +kernel) (by decide +kernel) cd_o111 rfl ?_
        refine pe_iconstv (n := 0) (v := 0) (by decide +kernel) (by decide +kernel) ?_
        refine pe_aload_n (j := 0) (by decide +kernel) rfl ?_
        refine pe_get (j := 22) (ci := 9) (n := 5) (by decide +kernel) (by decide +kernel) cd_o5 rfl ?_
        refine pe_iconstv (n := 0) (v := 0) (by decide +kernel) (by decide +kernel) ?_
        refine pe_bipushv (n := 9) (v := 9) (by decide +kernel) (by decide +kernel) ?_
        have hl14 := kz_9
        have hl15 := kz_0
        have hl16 := kz_0
        refine cz_copy (j := 40) (a := 0) (b := 0) (c := 9) (by decide +kernel) (by decide +kernel) (Nat.le_of_ble_eq_true rfl) cd_a114 cd_a8 (by decide +kernel) (fun _ => cd_s8) hIA13 (cl_114 hIA13) (cl_8 hIA13) kz_0 kz_0 kz_9 (by omega) (by omega) (by omega) (by omega) (by omega) (Or.inl rfl) (ct_no (by decide +kernel)) (fun A17 eA17 hIA17 => ?_)
        refine pe_aload_n (j := 1) (by decide +kernel) rfl ?_
        refine pe_get (j := 25) (ci := 9) (n := 6) (by decide +kernel) (by decide +kernel) cd_o111 rfl ?_
        refine pe_iconstv (n := 0) (v := 0) (by decide +kernel) (by decide +kernel) ?_
        refine pe_aload_n (j := 0) (by decide +kernel) rfl ?_
        refine pe_get (j := 25) (ci := 9) (n := 6) (by decide +kernel) (by decide +kernel) cd_o5 rfl ?_
        refine pe_iconstv (n := 0) (v := 0) (by decide +kernel) (by decide +kernel) ?_
        refine pe_bipushv (n := 28) (v := 28) (by decide +kernel) (by decide +kernel) ?_
        have hl18 := kz_28
        have hl19 := kz_0
        have hl20 := kz_0
        refine cz_copy (j := 40) (a := 0) (b := 0) (c := 28) (by decide +kernel) (by decide +kernel) (Nat.le_of_ble_eq_true rfl) cd_a115 cd_a9 (by decide +kernel) (fun _ => cd_s9) hIA17 (cl_115 hIA17) (cl_9 hIA17) kz_0 kz_0 kz_28 (by omega) (by omega) (by omega) (by omega) (by omega) (Or.inl rfl) (ct_one (kd := 0) (P := fun kd => ∀ i, i < (28 : Int).toNat → CT kd ((0 : Int).toNat + i) ((A17 115).getD ((0 : Int).toNat + i) 0).toInt) (by decide +kernel) (fun i _ => ct_115 hIA17 rfl)) (fun A21 eA21 hIA21 => ?_)
        refine pe_vret (by decide +kernel) rfl ⟨rfl, rfl, ?_⟩
        show pmE pg X pg_tyl pg_cl (d + 1) 71 41 [.ref 1, .ref 107, .int x2] [] (cd f5 A21 R wr) _
        refine pz_iinc (j := 2) (n := 1) (by decide +kernel) rfl rfl (by decide +kernel) (by omega) (by omega) (fun z22 hz22 => ?_)
        show pmE pg X pg_tyl pg_cl (d + 1) 71 44 [.ref 1, .ref 107, .int z22] [] (cd f5 A21 R wr) _
        refine pe_goto (off := (-26)) (t := 18) (by decide +kernel) (by decide) rfl ?_
        exact ih f5 A21 z22 hIA21 (fun k n80 n81 n82 n160 n161 n162 => (upf_fr ef5 n82).trans ((upf_fr ef4 n81).trans ((upf_fr ef3 n80).trans ((hG k n80 n81 n82 n160 n161 n162))))) (fun k n6 n7 n8 n9 n11 n12 n13 n14 => (upa_fr eA21 n9).trans ((upa_fr eA17 n8).trans ((upa_fr eA13 n7).trans ((upa_fr eA9 n6).trans ((hF k n6 n7 n8 n9 n11 n12 n13 n14)))))) (by omega) (by omega)
      · skip
        refine pz_aald (q := 10) (t := 3) (n := 2) (i := 1) (C := "RingVillage$Village") (by decide +kernel) cd_q2 rfl rfl rfl (by omega) (by decide +kernel) rfl ?_
        refine pe_aload_n (j := 1) (by decide +kernel) rfl ?_
        refine pe_get (j := 11) (ci := 8) (n := 0) (by decide +kernel) (by decide +kernel) cd_o107 rfl ?_
        refine pe_iload_n (j := 2) (by decide +kernel) rfl ?_
        refine pz_aald (q := 116) (t := 3) (n := 2) (i := 1) (C := "RingVillage$Village") (by decide +kernel) cd_q108 rfl rfl rfl (by omega) (by decide +kernel) rfl ?_
        refine pi_V (j := 39) (mj := 56) (by decide +kernel) (cll_V (args := [.ref 116]) (n := 1) (by decide +kernel) rfl rfl cd_o10 (by decide +kernel) (Nat.le_of_ble_eq_true rfl) (Nat.le_of_ble_eq_true rfl)) ?_
        show pmE pg X pg_tyl pg_cl (d) 56 0 [.ref 10, .ref 116] [] (cd f A R wr) _
        refine pe_aload_n (j := 0) (by decide +kernel) rfl ?_
        refine pe_aload_n (j := 1) (by decide +kernel) rfl ?_
        refine pe_get (j := 9) (ci := 9) (n := 0) (by decide +kernel) (by decide +kernel) cd_o116 rfl ?_
        have hr_f_1856 := cf_1856 hI
        refine cz_put160 (jj := 9) (by decide +kernel) (by decide +kernel) hI (by omega) (by omega) (fun f23 ef23 hIf23 => ?_)
        refine pe_aload_n (j := 0) (by decide +kernel) rfl ?_
        refine pe_aload_n (j := 1) (by decide +kernel) rfl ?_
        refine pe_get (j := 28) (ci := 9) (n := 1) (by decide +kernel) (by decide +kernel) cd_o116 rfl ?_
        refine pe_top (v := (f 1857)) (upf_fr ef23 (by decide)) ?_
        refine cz_put161 (jj := 28) (by decide +kernel) (by decide +kernel) hIf23 (fun f24 ef24 hIf24 => ?_)
        refine pe_aload_n (j := 0) (by decide +kernel) rfl ?_
        refine pe_aload_n (j := 1) (by decide +kernel) rfl ?_
        refine pe_get (j := 31) (ci := 9) (n := 2) (by decide +kernel) (by decide +kernel) cd_o116 rfl ?_
        have hr_f_1858 := cf_1858 hI
        refine pe_top (v := (f 1858)) ((upf_fr ef24 (by decide)).trans (upf_fr ef23 (by decide))) ?_
        refine cz_put162 (jj := 31) (by decide +kernel) (by decide +kernel) hIf24 (by omega) (by omega) (fun f25 ef25 hIf25 => ?_)
        refine pe_aload_n (j := 1) (by decide +kernel) rfl ?_
        refine pe_get (j := 15) (ci := 9) (n := 3) (by decide +kernel) (by decide +kernel) cd_o116 rfl ?_
        refine pe_iconstv (n := 0) (v := 0) (by decide +kernel) (by decide +kernel) ?_
        refine pe_aload_n (j := 0) (by decide +kernel) rfl ?_
        refine pe_get (j := 15) (ci := 9) (n := 3) (by decide +kernel) (by decide +kernel) cd_o10 rfl ?_
        refine pe_iconstv (n := 0) (v := 0) (by decide +kernel) (by decide +kernel) ?_
        refine pe_bipushv (n := 81) (v := 81) (by decide +kernel) (by decide +kernel) ?_
        have hl26 := kz_81
        have hl27 := kz_0
        have hl28 := kz_0
        refine cz_copy (j := 40) (a := 0) (b := 0) (c := 81) (by decide +kernel) (by decide +kernel) (Nat.le_of_ble_eq_true rfl) cd_a117 cd_a11 (by decide +kernel) (fun _ => cd_s11) hIf25 (cl_117 hIf25) (cl_11 hIf25) kz_0 kz_0 kz_81 (by omega) (by omega) (by omega) (by omega) (by omega) (Or.inl rfl) (ct_no (by decide +kernel)) (fun A29 eA29 hIA29 => ?_)
        refine pe_aload_n (j := 1) (by decide +kernel) rfl ?_
        refine pe_get (j := 19) (ci := 9) (n := 4) (by decide +kernel) (by decide +kernel) cd_o116 rfl ?_
        refine pe_iconstv (n := 0) (v := 0) (by decide +kernel) (by decide +kernel) ?_
        refine pe_aload_n (j := 0) (by decide +kernel) rfl ?_
        refine pe_get (j := 19) (ci := 9) (n := 4) (by decide +kernel) (by decide +kernel) cd_o10 rfl ?_
        refine pe_iconstv (n := 0) (v := 0) (by decide +kernel) (by decide +kernel) ?_
        refine pe_bipushv (n := 9) (v := 9) (by decide +kernel) (by decide +kernel) ?_
        have hl30 := kz_9
        have hl31 := kz_0
        have hl32 := kz_0
        refine cz_copy (j := 40) (a := 0) (b := 0) (c := 9) (by decide +kernel) (by decide +kernel) (Nat.le_of_ble_eq_true rfl) cd_a118 cd_a12 (by decide +kernel) (fun _ => cd_s12) hIA29 (cl_118 hIA29) (cl_12 hIA29) kz_0 kz_0 kz_9 (by omega) (by omega) (by omega) (by omega) (by omega) (Or.inl rfl) (ct_no (by decide +kernel)) (fun A33 eA33 hIA33 => ?_)
        refine pe_aload_n (j := 1) (by decide +kernel) rfl ?_
        refine pe_get (j := 22) (ci := 9) (n := 5) (by decide +kernel) (by decide +kernel) cd_o116 rfl ?_
        refine pe_iconstv (n := 0) (v := 0) (by decide +kernel) (by decide +kernel) ?_
        refine pe_aload_n (j := 0) (by decide +kernel) rfl ?_
        refine pe_get (j := 22) (ci := 9) (n := 5) (by decide +kernel) (by decide +kernel) cd_o10 rfl ?_
        refine pe_iconstv (n := 0) (v := 0) (by decide +kernel) (by decide +kernel) ?_
        refine pe_bipushv (n := 9) (v := 9) (by decide +kernel) (by decide +kernel) ?_
        have hl34 := kz_9
        have hl35 := kz_0
        have hl36 := kz_0
        refine cz_copy (j := 40) (a := 0) (b := 0) (c := 9) (by decide +kernel) (by decide +kernel) (Nat.le_of_ble_eq_true rfl) cd_a119 cd_a13 (by decide +kernel) (fun _ => cd_s13) hIA33 (cl_119 hIA33) (cl_13 hIA33) kz_0 kz_0 kz_9 (by omega) (by omega) (by omega) (by omega) (by omega) (Or.inl rfl) (ct_no (by decide +kernel)) (fun A37 eA37 hIA37 => ?_)
        refine pe_aload_n (j := 1) (by decide +kernel) rfl ?_
        refine pe_get (j := 25) (ci := 9) (n := 6) (by decide +kernel) (by decide +kernel) cd_o116 rfl ?_
        refine pe_iconstv (n := 0) (v := 0) (by decide +kernel) (by decide +kernel) ?_
        refine pe_aload_n (j := 0) (by decide +kernel) rfl ?_
        refine pe_get (j := 25) (ci := 9) (n := 6) (by decide +kernel) (by decide +kernel) cd_o10 rfl ?_
        refine pe_iconstv (n := 0) (v := 0) (by decide +kernel) (by decide +kernel) ?_
        refine pe_bipushv (n := 28) (v := 28) (by decide +kernel) (by decide +kernel) ?_
        have hl38 := kz_28
        have hl39 := kz_0
        have hl40 := kz_0
        refine cz_copy (j := 40) (a := 0) (b := 0) (c := 28) (by decide +kernel) (by decide +kernel) (Nat.le_of_ble_eq_true rfl) cd_a120 cd_a14 (by decide +kernel) (fun _ => cd_s14) hIA37 (cl_120 hIA37) (cl_14 hIA37) kz_0 kz_0 kz_28 (by omega) (by omega) (by omega) (by omega) (by omega) (Or.inl rfl) (ct_one (kd := 0) (P := fun kd => ∀ i, i < (28 : Int).toNat → CT kd ((0 : Int).toNat + i) ((A37 120).getD ((0 : Int).toNat + i) 0).toInt) (by decide +kernel) (fun i _ => ct_120 hIA37 rfl)) (fun A41 eA41 hIA41 => ?_)
        refine pe_vret (by decide +kernel) rfl ⟨rfl, rfl, ?_⟩
        show pmE pg X pg_tyl pg_cl (d + 1) 71 41 [.ref 1, .ref 107, .int x2] [] (cd f25 A41 R wr) _
        refine pz_iinc (j := 2) (n := 1) (by decide +kernel) rfl rfl (by decide +kernel) (by omega) (by omega) (fun z42 hz42 => ?_)
        show pmE pg X pg_tyl pg_cl (d + 1) 71 44 [.ref 1, .ref 107, .int z42] [] (cd f25 A41 R wr) _
        refine pe_goto (off := (-26)) (t := 18) (by decide +kernel) (by decide) rfl ?_
        exact ih f25 A41 z42 hIA41 (fun k n80 n81 n82 n160 n161 n162 => (upf_fr ef25 n162).trans ((upf_fr ef24 n161).trans ((upf_fr ef23 n160).trans ((hG k n80 n81 n82 n160 n161 n162))))) (fun k n6 n7 n8 n9 n11 n12 n13 n14 => (upa_fr eA41 n14).trans ((upa_fr eA37 n13).trans ((upa_fr eA33 n12).trans ((upa_fr eA29 n11).trans ((hF k n6 n7 n8 n9 n11 n12 n13 n14)))))) (by omega) (by omega)
set_option maxRecDepth 100000 in
set_option maxHeartbeats 8000000 in
theorem CM_71_4 {X : pm_X} {d : Nat} {wr : pm_W} {f : Nat → Int32} {A : Nat → List Int32} {R : Nat → Value} (hX : XO X) (hI : CI f A R) : pmE pg X pg_tyl pg_cl (d + 1) 71 0 (pm_ent (pm_max pg 71) [.ref 1, .ref 107]) [] (cd f A R wr) (fun q => ∃ (f' : Nat → Int32) (A' : Nat → List Int32), q = (none, cd f' A' R wr, 0, 0) ∧ CI f' A' R ∧ (∀ k : Nat, k ≠ 18 → k ≠ 19 → k ≠ 21 → k ≠ 22 → k ≠ 23 → k ≠ 80 → k ≠ 81 → k ≠ 82 → k ≠ 160 → k ≠ 161 → k ≠ 162 → k ≠ 240 → k ≠ 272 → k ≠ 304 → f' k = f k) ∧ (∀ k : Nat, k ≠ 4 → k ≠ 6 → k ≠ 7 → k ≠ 8 → k ≠ 9 → k ≠ 11 → k ≠ 12 → k ≠ 13 → k ≠ 14 → k ≠ 16 → k ≠ 18 → k ≠ 20 → A' k = A k) ∧ ((f' 21).toInt + (-1) * (f 1717).toInt) ≤ 0 ∧ ((-1) * (f' 21).toInt + (f 1717).toInt) ≤ 0 ∧ ((True))) := by
  show pmE pg X pg_tyl pg_cl (d + 1) 71 0 [.ref 1, .ref 107, pm_dead] [] (cd f A R wr) _
  refine pe_aload_n (j := 0) (by decide +kernel) rfl ?_
  refine pe_aload_n (j := 1) (by decide +kernel) rfl ?_
  refine pe_get (j := 33) (ci := 8) (n := 2) (by decide +kernel) (by decide +kernel) cd_o107 rfl ?_
  have hr_f_1714 := cf_1714 hI
  refine cz_put18 (jj := 33) (by decide +kernel) (by decide +kernel) hI (by omega) (by omega) (fun f1 ef1 hIf1 => ?_)
  refine pe_aload_n (j := 0) (by decide +kernel) rfl ?_
  refine pe_aload_n (j := 1) (by decide +kernel) rfl ?_
  refine pe_get (j := 36) (ci := 8) (n := 3) (by decide +kernel) (by decide +kernel) cd_o107 rfl ?_
  have hr_f_1715 := cf_1715 hI
  refine pe_top (v := (f 1715)) (upf_fr ef1 (by decide)) ?_
  refine cz_put19 (jj := 36) (by decide +kernel) (by decide +kernel) hIf1 (by omega) (by omega) (fun f2 ef2 hIf2 => ?_)
  refine pe_iconstv (n := 0) (v := 0) (by decide +kernel) (by decide +kernel) ?_
  refine pe_istore_n (j := 2) (ls' := [.ref 1, .ref 107, .int 0]) (by decide +kernel) (Nat.le_of_ble_eq_true rfl) rfl ?_
  refine CL_71_4_18 hX (fun f3 A4 y5 hIy6 hGf3 hFA4 gy5 => ?_) 3 f2 A 0 hIf2 (fun k _ _ _ _ _ _ => rfl) (fun k _ _ _ _ _ _ _ _ => rfl) (by decide +kernel) (by decide +kernel)
  refine pe_iconstv (n := 0) (v := 0) (by decide +kernel) (by decide +kernel) ?_
  refine pe_istore_n (j := 2) (ls' := [.ref 1, .ref 107, .int 0]) (by decide +kernel) (Nat.le_of_ble_eq_true rfl) rfl ?_
  refine CL_71_4_49 hX (fun f7 A8 y9 hIy10 hGf7 hFA8 gy9 => ?_) 4 f3 A4 0 hIy6 (fun k _ _ _ => rfl) (fun k _ _ _ => rfl) (by decide +kernel) (by decide +kernel)
  refine pe_aload_n (j := 0) (by decide +kernel) rfl ?_
  refine pe_aload_n (j := 1) (by decide +kernel) rfl ?_
  refine pe_get (j := 46) (ci := 8) (n := 5) (by decide +kernel) (by decide +kernel) cd_o107 rfl ?_
  have hr_f_1717 := cf_1717 hI
  refine pe_top (v := (f 1717)) (((hGf7 1717 (by decide) (by decide) (by decide))).trans (((hGf3 1717 (by decide) (by decide) (by decide) (by decide) (by decide) (by decide))).trans ((upf_fr ef2 (by decide)).trans (upf_fr ef1 (by decide))))) ?_
  refine cz_put21 (jj := 46) (by decide +kernel) (by decide +kernel) hIy10 (by omega) (by omega) (fun f11 ef11 hIf11 => ?_)
  refine pe_aload_n (j := 1) (by decide +kernel) rfl ?_
  refine pe_get (j := 23) (ci := 8) (n := 4) (by decide +kernel) (by decide +kernel) cd_o107 rfl ?_
  refine pe_iconstv (n := 0) (v := 0) (by decide +kernel) (by decide +kernel) ?_
  refine pe_aload_n (j := 0) (by decide +kernel) rfl ?_
  refine pe_get (j := 23) (ci := 8) (n := 4) (by decide +kernel) (by decide +kernel) cd_o1 rfl ?_
  refine pe_iconstv (n := 0) (v := 0) (by decide +kernel) (by decide +kernel) ?_
  refine pe_aload_n (j := 0) (by decide +kernel) rfl ?_
  refine pe_get (j := 46) (ci := 8) (n := 5) (by decide +kernel) (by decide +kernel) cd_o1 rfl ?_
  refine pe_top (v := (f 1717)) (upf_at ef11) ?_
  have hl12 := kz_0
  have hl13 := kz_0
  refine cz_copy (j := 49) (a := 0) (b := 0) (c := (f 1717).toInt) (by decide +kernel) (by decide +kernel) (Nat.le_of_ble_eq_true rfl) cd_a110 cd_a4 (by decide +kernel) (fun _ => cd_s4) hIf11 (cl_110 hIf11) (cl_4 hIf11) kz_0 kz_0 rfl (by omega) (by omega) (by omega) (by omega) (by omega) (Or.inr (fun i => fits_b (ct_110 hIf11 rfl))) (ct_one (kd := 7) (P := fun kd => ∀ i, i < ((f 1717).toInt : Int).toNat → CT kd ((0 : Int).toNat + i) ((A8 110).getD ((0 : Int).toNat + i) 0).toInt) (by decide +kernel) (fun i _ => ct_110 hIf11 rfl)) (fun A14 eA14 hIA14 => ?_)
  refine pe_aload_n (j := 0) (by decide +kernel) rfl ?_
  refine pe_aload_n (j := 1) (by decide +kernel) rfl ?_
  refine pe_get (j := 55) (ci := 8) (n := 6) (by decide +kernel) (by decide +kernel) cd_o107 rfl ?_
  refine pe_top (v := (f 1718)) ((upf_fr ef11 (by decide)).trans (((hGf7 1718 (by decide) (by decide) (by decide))).trans (((hGf3 1718 (by decide) (by decide) (by decide) (by decide) (by decide) (by decide))).trans ((upf_fr ef2 (by decide)).trans (upf_fr ef1 (by decide)))))) ?_
  refine cz_put22 (jj := 55) (by decide +kernel) (by decide +kernel) hIA14 (fun f15 ef15 hIf15 => ?_)
  refine pe_aload_n (j := 0) (by decide +kernel) rfl ?_
  refine pe_aload_n (j := 1) (by decide +kernel) rfl ?_
  refine pe_get (j := 27) (ci := 8) (n := 7) (by decide +kernel) (by decide +kernel) cd_o107 rfl ?_
  refine pe_top (v := (f 1719)) ((upf_fr ef15 (by decide)).trans ((upf_fr ef11 (by decide)).trans (((hGf7 1719 (by decide) (by decide) (by decide))).trans (((hGf3 1719 (by decide) (by decide) (by decide) (by decide) (by decide) (by decide))).trans ((upf_fr ef2 (by decide)).trans (upf_fr ef1 (by decide))))))) ?_
  refine cz_put23 (jj := 27) (by decide +kernel) (by decide +kernel) hIf15 (fun f16 ef16 hIf16 => ?_)
  have hx17 : (f16 1717).toInt = (f 1717).toInt := (congrArg Int32.toInt (show f16 1717 = (f 1717) from (upf_fr ef16 (by decide)).trans ((upf_fr ef15 (by decide)).trans ((upf_fr ef11 (by decide)).trans (((hGf7 1717 (by decide) (by decide) (by decide))).trans (((hGf3 1717 (by decide) (by decide) (by decide) (by decide) (by decide) (by decide))).trans ((upf_fr ef2 (by decide)).trans (upf_fr ef1 (by decide))))))))).trans rfl
  have hx18 : (f16 21).toInt = (f 1717).toInt := (congrArg Int32.toInt (show f16 21 = (f 1717) from (upf_fr ef16 (by decide)).trans ((upf_fr ef15 (by decide)).trans (upf_at ef11)))).trans rfl
  have hx19 : (f16 1717).toInt = (f 1717).toInt := (congrArg Int32.toInt (show f16 1717 = (f 1717) from (upf_fr ef16 (by decide)).trans ((upf_fr ef15 (by decide)).trans ((upf_fr ef11 (by decide)).trans (((hGf7 1717 (by decide) (by decide) (by decide))).trans (((hGf3 1717 (by decide) (by decide) (by decide) (by decide) (by decide) (by decide))).trans ((upf_fr ef2 (by decide)).trans (upf_fr ef1 (by decide))))))))).trans rfl
  have hx20 : (f16 21).toInt = (f 1717).toInt := (congrArg Int32.toInt (show f16 21 = (f 1717) from (upf_fr ef16 (by decide)).trans ((upf_fr ef15 (by decide)).trans (upf_at ef11)))).trans rfl
  exact pe_vret (by decide +kernel) rfl ⟨f16, A14, rfl, hIf16, (fun k n18 n19 n21 n22 n23 n80 n81 n82 n160 n161 n162 n240 n272 n304 => (upf_fr ef16 n23).trans ((upf_fr ef15 n22).trans ((upf_fr ef11 n21).trans (((hGf7 k n240 n272 n304)).trans (((hGf3 k n80 n81 n82 n160 n161 n162)).trans ((upf_fr ef2 n19).trans (upf_fr ef1 n18))))))), (fun k n4 n6 n7 n8 n9 n11 n12 n13 n14 n16 n18 n20 => (upa_fr eA14 n4).trans (((hFA8 k n16 n18 n20)).trans ((hFA4 k n6 n7 n8 n9 n11 n12 n13 n14)))), (by omega), (by omega), trivial⟩
