set_option maxRecDepth 100000 in
set_option maxHeartbeats 8000000 in
theorem CL_14_3 {X : pm_X} {d : Nat} {wr : pm_W} {Q : pm_R → Prop} {f0 : Nat → Int32} {A0 : Nat → List Int32} {R : Nat → Value} {x1 : Int32} (hX : XO X) (k_46_0 : ∀ (f' : Nat → Int32) (A' : Nat → List Int32) (y2 : Int32), CI f' A' R → (∀ k : Nat, k ≠ 21 → f' k = f0 k) → (∀ k : Nat, k ≠ 4 → A' k = A0 k) → ((-8) ≤ y2.toInt ∧ y2.toInt ≤ (-1)) → ((-8) * (f0 21).toInt + 8 * (f' 21).toInt + y2.toInt + (-24)) ≤ 0 → (8 * (f0 21).toInt + (-8) * (f' 21).toInt + (-1) * y2.toInt + 24) ≤ 0 → ((f0 21).toInt + (-596)) ≤ 0 → pmE pg X pg_tyl pg_cl (d) 14 46 [.ref 1, .int x1, .int y2] [] (cd f' A' R wr) Q) : ∀ (m : Nat) (f : Nat → Int32) (A : Nat → List Int32) (x2 : Int32), CI f A R → (∀ k : Nat, k ≠ 21 → f k = f0 k) → (∀ k : Nat, k ≠ 4 → A k = A0 k) → ((-8) ≤ x2.toInt ∧ x2.toInt ≤ 24) → ((-8) * (f0 21).toInt + 8 * (f 21).toInt + x2.toInt + (-24)) ≤ 0 → (8 * (f0 21).toInt + (-8) * (f 21).toInt + (-1) * x2.toInt + 24) ≤ 0 → ((f0 21).toInt + (-596)) ≤ 0 → x2.toInt - (-8) < (m : Int) → pmE pg X pg_tyl pg_cl (d) 14 3 [.ref 1, .int x1, .int x2] [] (cd f A R wr) Q := by
  intro m
  induction m with
  | zero =>
    intro f A x2 hI hG hF gx2 hxi0 hxi1 hxi2 hm
    exfalso
    have l0 := zi_lo x2
    have u0 := zi_hi x2
    omega
  | succ m ih =>
    intro f A x2 hI hG hF gx2 hxi0 hxi1 hxi2 hm
    have hr_f_21 := cf_21 hI
    refine pe_iload_n (j := 2) (by decide +kernel) rfl ?_
    refine pz_if_lt (off := 42) (t := 46) (by decide +kernel) (by decide) rfl rfl (fun h1 => ?_) (fun h1 => ?_)
    · skip
      exact k_46_0 f A x2 hI (fun k n21 => (hG k n21)) (fun k n4 => (hF k n4)) (by omega) (by omega) (by omega) (by omega)
    · skip
      refine pe_aload_n (j := 0) (by decide +kernel) rfl ?_
      refine pe_get (j := 46) (ci := 8) (n := 5) (by decide +kernel) (by decide +kernel) cd_o1 rfl ?_
      refine pe_sipushv (n := 600) (v := 600) (by decide +kernel) (by decide +kernel) ?_
      refine pz_icmp_ge (off := 32) (t := 46) (by decide +kernel) (by decide) rfl rfl kz_600 (fun h2 => by omega) (fun h2 => ?_)
      refine pe_aload_n (j := 0) (by decide +kernel) rfl ?_
      refine pe_get (j := 23) (ci := 8) (n := 4) (by decide +kernel) (by decide +kernel) cd_o1 rfl ?_
      refine pe_aload_n (j := 0) (by decide +kernel) rfl ?_
      refine pe_get (j := 46) (ci := 8) (n := 5) (by decide +kernel) (by decide +kernel) cd_o1 rfl ?_
      refine pe_iload_n (j := 1) (by decide +kernel) rfl ?_
      refine pe_iload_n (j := 2) (by decide +kernel) rfl ?_
      refine pw_shr (by decide +kernel) (fun z3 => ?_)
      refine pw_i2b (by decide +kernel) (fun z4 hz4 => ?_)
      refine cz_st4 (by decide +kernel) hI rfl (by omega) (by omega) (fun A5 eA5 hIA5 => ?_)
      refine pe_aload_n (j := 0) (by decide +kernel) rfl ?_
      refine pe_dup (by decide +kernel) rfl ?_
      refine pe_get (j := 46) (ci := 8) (n := 5) (by decide +kernel) (by decide +kernel) cd_o1 rfl ?_
      refine pe_iconstv (n := 1) (v := 1) (by decide +kernel) (by decide +kernel) ?_
      refine pz_add (by decide +kernel) rfl kz_1 (by omega) (by omega) (fun z6 hz6 => ?_)
      refine cz_put21 (jj := 46) (by decide +kernel) (by decide +kernel) hIA5 (by omega) (by omega) (fun f7 ef7 hIf7 => ?_)
      refine pz_iinc (j := 2) (n := (-8)) (by decide +kernel) rfl rfl (by decide +kernel) (by omega) (by omega) (fun z8 hz8 => ?_)
      show pmE pg X pg_tyl pg_cl (d) 14 43 [.ref 1, .int x1, .int z8] [] (cd f7 A5 R wr) _
      refine pe_goto (off := (-40)) (t := 3) (by decide +kernel) (by decide) rfl ?_
      have hx9 : (f7 21).toInt = ((f 21).toInt + 1) := (congrArg Int32.toInt (show f7 21 = z6 from upf_at ef7)).trans hz6
      have hx10 : (f7 21).toInt = ((f 21).toInt + 1) := (congrArg Int32.toInt (show f7 21 = z6 from upf_at ef7)).trans hz6
      exact ih f7 A5 z8 hIf7 (fun k n21 => (upf_fr ef7 n21).trans ((hG k n21))) (fun k n4 => (upa_fr eA5 n4).trans ((hF k n4))) (by omega) (by omega) (by omega) (by omega) (by omega)
set_option maxRecDepth 100000 in
set_option maxHeartbeats 8000000 in
theorem CM_14 {X : pm_X} {d : Nat} {wr : pm_W} {f : Nat → Int32} {A : Nat → List Int32} {R : Nat → Value} {x1 : Int32} (hX : XO X) (hI : CI f A R) (hxp0 : ((f 21).toInt + (-596)) ≤ 0) : pmE pg X pg_tyl pg_cl (d) 14 0 (pm_ent (pm_max pg 14) [.ref 1, .int x1]) [] (cd f A R wr) (fun q => ∃ (f' : Nat → Int32) (A' : Nat → List Int32), q = (none, cd f' A' R wr, 0, 0) ∧ CI f' A' R ∧ (∀ k : Nat, k ≠ 21 → f' k = f k) ∧ (∀ k : Nat, k ≠ 4 → A' k = A k) ∧ ((f' 21).toInt + (-1) * (f 21).toInt + (-4)) ≤ 0 ∧ ((-1) * (f' 21).toInt + (f 21).toInt + 4) ≤ 0 ∧ ((True))) := by
  show pmE pg X pg_tyl pg_cl (d) 14 0 [.ref 1, .int x1, pm_dead] [] (cd f A R wr) _
  have hr_f_21 := cf_21 hI
  refine pe_bipushv (n := 24) (v := 24) (by decide +kernel) (by decide +kernel) ?_
  refine pe_istore_n (j := 2) (ls' := [.ref 1, .int x1, .int 24]) (by decide +kernel) (Nat.le_of_ble_eq_true rfl) rfl ?_
  have hl8 := kz_24
  have hl9 := kz_24
  refine CL_14_3 hX (fun f1 A2 y3 hIy4 hGf1 hFA2 gy3 hx5 hx6 hx7 => ?_) 33 f A 24 hI (fun k _ => rfl) (fun k _ => rfl) (by decide +kernel) (by omega) (by omega) (by omega) (by decide +kernel)
  have hr_f1_21 := cf_21 hIy4
  exact pe_vret (by decide +kernel) rfl ⟨f1, A2, rfl, hIy4, (fun k n21 => (hGf1 k n21)), (fun k n4 => (hFA2 k n4)), (by omega), (by omega), trivial⟩
set_option maxRecDepth 100000 in
set_option maxHeartbeats 8000000 in
theorem CM_13 {X : pm_X} {d : Nat} {wr : pm_W} {f : Nat → Int32} {A : Nat → List Int32} {R : Nat → Value} {x1 x2 x3 x4 x5 : Int32} (hX : XO X) (hI : CI f A R) : pmE pg X pg_tyl pg_cl (d + 1) 13 0 (pm_ent (pm_max pg 13) [.ref 0, .int x1, .int x2, .int x3, .int x4, .int x5]) [] (cd f A R wr) (fun q => ∃ (f' : Nat → Int32) (A' : Nat → List Int32) (r : Int32), q = (some (.int r), cd f' A' R wr, 0, 0) ∧ CI f' A' R ∧ (∀ k : Nat, k ≠ 21 → f' k = f k) ∧ (∀ k : Nat, k ≠ 4 → A' k = A k) ∧ ((((-1) ≤ r.toInt ∧ r.toInt ≤ 600) ∧ ((600 < (f 21).toInt + 20 ∧ (f' 21).toInt = (f 21).toInt ∧ r.toInt = -1) ∨ ((f 21).toInt + 20 ≤ 600 ∧ (f' 21).toInt = (f 21).toInt + 20 ∧ r.toInt = (f 21).toInt + 20)) ∧ True))) := by
  show pmE pg X pg_tyl pg_cl (d + 1) 13 0 [.ref 0, .int x1, .int x2, .int x3, .int x4, .int x5] [] (cd f A R wr) _
  refine pe_aload_n (j := 0) (by decide +kernel) rfl ?_
  refine pe_get (j := 12) (ci := 11) (n := 0) (by decide +kernel) (by decide +kernel) cd_o0 rfl ?_
  refine pe_get (j := 77) (ci := 8) (n := 5) (by decide +kernel) (by decide +kernel) cd_o1 rfl ?_
  have hr_f_21 := cf_21 hI
  refine pe_bipushv (n := 20) (v := 20) (by decide +kernel) (by decide +kernel) ?_
  refine pz_add (by decide +kernel) rfl kz_20 (by omega) (by omega) (fun z1 hz1 => ?_)
  refine pe_sipushv (n := 600) (v := 600) (by decide +kernel) (by decide +kernel) ?_
  refine pz_icmp_le (off := 5) (t := 18) (by decide +kernel) (by decide) rfl hz1 kz_600 (fun h2 => ?_) (fun h2 => ?_)
  · skip
    clear hz1
    refine pe_aload_n (j := 0) (by decide +kernel) rfl ?_
    refine pe_get (j := 12) (ci := 11) (n := 0) (by decide +kernel) (by decide +kernel) cd_o0 rfl ?_
    refine pe_iload_n (j := 1) (by decide +kernel) rfl ?_
    refine pz_callV (j := 81) (mj := 14) (by decide +kernel) (cll_V (args := [.int x1]) (n := 1) (by decide +kernel) rfl rfl cd_o1 (by decide +kernel) (Nat.le_of_ble_eq_true rfl) (Nat.le_of_ble_eq_true rfl)) (CM_14 hX hI (by omega)) (fun q3a q3b q3c q3d hqq3 => ?_)
    obtain ⟨f4, A5, eq3, hIq3, hGq3, hFq3, hX0q3, hX1q3, kq3⟩ := hqq3
    cases eq3
    refine ⟨rfl, rfl, ?_⟩
    have hr_f4_21 := cf_21 hIq3
    show pmE pg X pg_tyl pg_cl (d + 1) 13 26 [.ref 0, .int x1, .int x2, .int x3, .int x4, .int x5] [] (cd f4 A5 R wr) _
    refine pe_aload_n (j := 0) (by decide +kernel) rfl ?_
    refine pe_get (j := 12) (ci := 11) (n := 0) (by decide +kernel) (by decide +kernel) cd_o0 rfl ?_
    refine pe_iload_n (j := 2) (by decide +kernel) rfl ?_
    refine pz_callV (j := 81) (mj := 14) (by decide +kernel) (cll_V (args := [.int x2]) (n := 1) (by decide +kernel) rfl rfl cd_o1 (by decide +kernel) (Nat.le_of_ble_eq_true rfl) (Nat.le_of_ble_eq_true rfl)) (CM_14 hX hIq3 (by omega)) (fun q6a q6b q6c q6d hqq6 => ?_)
    obtain ⟨f7, A8, eq6, hIq6, hGq6, hFq6, hX0q6, hX1q6, kq6⟩ := hqq6
    cases eq6
    refine ⟨rfl, rfl, ?_⟩
    have hr_f7_21 := cf_21 hIq6
    show pmE pg X pg_tyl pg_cl (d + 1) 13 34 [.ref 0, .int x1, .int x2, .int x3, .int x4, .int x5] [] (cd f7 A8 R wr) _
    refine pe_aload_n (j := 0) (by decide +kernel) rfl ?_
    refine pe_get (j := 12) (ci := 11) (n := 0) (by decide +kernel) (by decide +kernel) cd_o0 rfl ?_
    refine pe_iload_n (j := 3) (by decide +kernel) rfl ?_
    refine pz_callV (j := 81) (mj := 14) (by decide +kernel) (cll_V (args := [.int x3]) (n := 1) (by decide +kernel) rfl rfl cd_o1 (by decide +kernel) (Nat.le_of_ble_eq_true rfl) (Nat.le_of_ble_eq_true rfl)) (CM_14 hX hIq6 (by omega)) (fun q9a q9b q9c q9d hqq9 => ?_)
    obtain ⟨f10, A11, eq9, hIq9, hGq9, hFq9, hX0q9, hX1q9, kq9⟩ := hqq9
    cases eq9
    refine ⟨rfl, rfl, ?_⟩
    have hr_f10_21 := cf_21 hIq9
    show pmE pg X pg_tyl pg_cl (d + 1) 13 42 [.ref 0, .int x1, .int x2, .int x3, .int x4, .int x5] [] (cd f10 A11 R wr) _
    refine pe_aload_n (j := 0) (by decide +kernel) rfl ?_
    refine pe_get (j := 12) (ci := 11) (n := 0) (by decide +kernel) (by decide +kernel) cd_o0 rfl ?_
    refine pe_iload (j := 4) (by decide +kernel) rfl ?_
    refine pz_callV (j := 81) (mj := 14) (by decide +kernel) (cll_V (args := [.int x4]) (n := 1) (by decide +kernel) rfl rfl cd_o1 (by decide +kernel) (Nat.le_of_ble_eq_true rfl) (Nat.le_of_ble_eq_true rfl)) (CM_14 hX hIq9 (by omega)) (fun q12a q12b q12c q12d hqq12 => ?_)
    obtain ⟨f13, A14, eq12, hIq12, hGq12, hFq12, hX0q12, hX1q12, kq12⟩ := hqq12
    cases eq12
    refine ⟨rfl, rfl, ?_⟩
    have hr_f13_21 := cf_21 hIq12
    show pmE pg X pg_tyl pg_cl (d + 1) 13 51 [.ref 0, .int x1, .int x2, .int x3, .int x4, .int x5] [] (cd f13 A14 R wr) _
    refine pe_aload_n (j := 0) (by decide +kernel) rfl ?_
    refine pe_get (j := 12) (ci := 11) (n := 0) (by decide +kernel) (by decide +kernel) cd_o0 rfl ?_
    refine pe_iload (j := 5) (by decide +kernel) rfl ?_
    refine pz_callV (j := 81) (mj := 14) (by decide +kernel) (cll_V (args := [.int x5]) (n := 1) (by decide +kernel) rfl rfl cd_o1 (by decide +kernel) (Nat.le_of_ble_eq_true rfl) (Nat.le_of_ble_eq_true rfl)) (CM_14 hX hIq12 (by omega)) (fun q15a q15b q15c q15d hqq15 => ?_)
    obtain ⟨f16, A17, eq15, hIq15, hGq15, hFq15, hX0q15, hX1q15, kq15⟩ := hqq15
    cases eq15
    refine ⟨rfl, rfl, ?_⟩
    have hr_f16_21 := cf_21 hIq15
    show pmE pg X pg_tyl pg_cl (d + 1) 13 60 [.ref 0, .int x1, .int x2, .int x3, .int x4, .int x5] [] (cd f16 A17 R wr) _
    refine pe_aload_n (j := 0) (by decide +kernel) rfl ?_
    refine pe_get (j := 12) (ci := 11) (n := 0) (by decide +kernel) (by decide +kernel) cd_o0 rfl ?_
    refine pe_get (j := 77) (ci := 8) (n := 5) (by decide +kernel) (by decide +kernel) cd_o1 rfl ?_
    exact pe_iret (by decide +kernel) rfl rfl ⟨f16, A17, (f16 21), rfl, hIq15, (fun k n21 => ((hGq15 k n21)).trans (((hGq12 k n21)).trans (((hGq9 k n21)).trans (((hGq6 k n21)).trans ((hGq3 k n21)))))), (fun k n4 => ((hFq15 k n4)).trans (((hFq12 k n4)).trans (((hFq9 k n4)).trans (((hFq6 k n4)).trans ((hFq3 k n4)))))), ⟨(by omega), (by omega), trivial⟩⟩
  · skip
    clear hz1
    refine pe_iconstv (n := (-1)) (v := (-1)) (by decide +kernel) (by decide +kernel) ?_
    have hl18 := kz_m1
    exact pe_iret (by decide +kernel) rfl rfl ⟨f, A, (-1), rfl, hI, (fun k n21 => rfl), (fun k n4 => rfl), ⟨(by decide +kernel), (by omega), trivial⟩⟩
set_option maxRecDepth 100000 in
set_option maxHeartbeats 8000000 in
theorem CM_15 {X : pm_X} {d : Nat} {wr : pm_W} {f : Nat → Int32} {A : Nat → List Int32} {R : Nat → Value} {x1 : Int32} (hX : XO X) (hI : CI f A R) : pmE pg X pg_tyl pg_cl (d) 15 0 (pm_ent (pm_max pg 15) [.ref 0, .int x1]) [] (cd f A R wr) (fun q => ∃ (f' : Nat → Int32) (r : Int32), q = (some (.int r), cd f' A R wr, 0, 0) ∧ CI f' A R ∧ (∀ k : Nat, k ≠ 21 → f' k = f k) ∧ ((((-1) ≤ r.toInt ∧ r.toInt ≤ 600) ∧ (((x1.toInt < 0 ∨ (f 21).toInt < x1.toInt) ∧ (f' 21).toInt = (f 21).toInt ∧ r.toInt = -1) ∨ (0 ≤ x1.toInt ∧ x1.toInt ≤ (f 21).toInt ∧ (f' 21).toInt = x1.toInt ∧ r.toInt = x1.toInt)) ∧ True))) := by
  show pmE pg X pg_tyl pg_cl (d) 15 0 [.ref 0, .int x1] [] (cd f A R wr) _
  refine pe_iload_n (j := 1) (by decide +kernel) rfl ?_
  have lw2 := zi_lo x1
  have uw2 := zi_hi x1
  refine pz_if_lt (off := 14) (t := 15) (by decide +kernel) (by decide) rfl rfl (fun h1 => ?_) (fun h1 => ?_)
  · skip
    refine pe_iconstv (n := (-1)) (v := (-1)) (by decide +kernel) (by decide +kernel) ?_
    have hl3 := kz_m1
    have hr_f_21 := cf_21 hI
    exact pe_iret (by decide +kernel) rfl rfl ⟨f, (-1), rfl, hI, (fun k n21 => rfl), ⟨(by decide +kernel), (by omega), trivial⟩⟩
  · skip
    refine pe_iload_n (j := 1) (by decide +kernel) rfl ?_
    refine pe_aload_n (j := 0) (by decide +kernel) rfl ?_
    refine pe_get (j := 12) (ci := 11) (n := 0) (by decide +kernel) (by decide +kernel) cd_o0 rfl ?_
    refine pe_get (j := 77) (ci := 8) (n := 5) (by decide +kernel) (by decide +kernel) cd_o1 rfl ?_
    have hr_f_21 := cf_21 hI
    refine pz_icmp_le (off := 5) (t := 17) (by decide +kernel) (by decide) rfl rfl rfl (fun h4 => ?_) (fun h4 => ?_)
    · skip
      refine pe_aload_n (j := 0) (by decide +kernel) rfl ?_
      refine pe_get (j := 12) (ci := 11) (n := 0) (by decide +kernel) (by decide +kernel) cd_o0 rfl ?_
      refine pe_iload_n (j := 1) (by decide +kernel) rfl ?_
      refine cz_put21 (jj := 77) (by decide +kernel) (by decide +kernel) hI (by omega) (by omega) (fun f5 ef5 hIf5 => ?_)
      refine pe_iload_n (j := 1) (by decide +kernel) rfl ?_
      have hx6 : (f5 21).toInt = x1.toInt := (congrArg Int32.toInt (show f5 21 = x1 from upf_at ef5)).trans rfl
      exact pe_iret (by decide +kernel) rfl rfl ⟨f5, x1, rfl, hIf5, (fun k n21 => upf_fr ef5 n21), ⟨(by omega), (by omega), trivial⟩⟩
    · skip
      refine pe_iconstv (n := (-1)) (v := (-1)) (by decide +kernel) (by decide +kernel) ?_
      have hl7 := kz_m1
      exact pe_iret (by decide +kernel) rfl rfl ⟨f, (-1), rfl, hI, (fun k n21 => rfl), ⟨(by decide +kernel), (by omega), trivial⟩⟩
set_option maxRecDepth 100000 in
set_option maxHeartbeats 8000000 in
theorem CL_71_49 {X : pm_X} {d : Nat} {wr : pm_W} {Q : pm_R → Prop} {f0 : Nat → Int32} {A0 : Nat → List Int32} {R : Nat → Value} (hX : XO X) (k_78_0 : ∀ (f' : Nat → Int32) (A' : Nat → List Int32) (y2 : Int32), CI f' A' R → (∀ k : Nat, k ≠ 1616 → k ≠ 1648 → k ≠ 1680 → f' k = f0 k) → (∀ k : Nat, k ≠ 102 → k ≠ 104 → k ≠ 106 → A' k = A0 k) → (0 ≤ y2.toInt ∧ y2.toInt ≤ 3) → pmE pg X pg_tyl pg_cl (d + 1) 71 78 [.ref 87, .ref 1, .int y2] [] (cd f' A' R wr) Q) : ∀ (m : Nat) (f : Nat → Int32) (A : Nat → List Int32) (x2 : Int32), CI f A R → (∀ k : Nat, k ≠ 1616 → k ≠ 1648 → k ≠ 1680 → f k = f0 k) → (∀ k : Nat, k ≠ 102 → k ≠ 104 → k ≠ 106 → A k = A0 k) → (0 ≤ x2.toInt ∧ x2.toInt ≤ 3) → 3 - x2.toInt < (m : Int) → pmE pg X pg_tyl pg_cl (d + 1) 71 49 [.ref 87, .ref 1, .int x2] [] (cd f A R wr) Q := by
  intro m
  induction m with
  | zero =>
    intro f A x2 hI hG hF gx2 hm
    exfalso
    have l0 := zi_lo x2
    have u0 := zi_hi x2
    omega
  | succ m ih =>
    intro f A x2 hI hG hF gx2 hm
    refine pe_iload_n (j := 2) (by decide +kernel) rfl ?_
    refine pe_aload_n (j := 0) (by decide +kernel) rfl ?_
    refine pe_get (j := 36) (ci := 8) (n := 3) (by decide +kernel) (by decide +kernel) cd_o87 rfl ?_
    have hr_f_1395 := cf_1395 hI
    refine pz_icmp_ge (off := 24) (t := 78) (by decide +kernel) (by decide) rfl rfl rfl (fun h1 => ?_) (fun h1 => ?_)
    · skip
      exact k_78_0 f A x2 hI (fun k n1616 n1648 n1680 => (hG k n1616 n1648 n1680)) (fun k n102 n104 n106 => (hF k n102 n104 n106)) (by omega)
    · skip
      refine pe_aload_n (j := 0) (by decide +kernel) rfl ?_
      refine pe_get (j := 19) (ci := 8) (n := 1) (by decide +kernel) (by decide +kernel) cd_o87 rfl ?_
      refine pe_iload_n (j := 2) (by decide +kernel) rfl ?_
      by_cases h2 : x2.toInt = 0
      · skip
        refine pz_aald (q := 101) (t := 4) (n := 3) (i := 0) (C := "RingVillage$Row") (by decide +kernel) cd_q89 rfl rfl rfl (by omega) (by decide +kernel) rfl ?_
        refine pe_aload_n (j := 1) (by decide +kernel) rfl ?_
        refine pe_get (j := 19) (ci := 8) (n := 1) (by decide +kernel) (by decide +kernel) cd_o1 rfl ?_
        refine pe_iload_n (j := 2) (by decide +kernel) rfl ?_
        refine pz_aald (q := 15) (t := 4) (n := 3) (i := 0) (C := "RingVillage$Row") (by decide +kernel) cd_q3 rfl rfl rfl (by omega) (by decide +kernel) rfl ?_
        refine pi_V (j := 43) (mj := 57) (by decide +kernel) (cll_V (args := [.ref 15]) (n := 1) (by decide +kernel) rfl rfl cd_o101 (by decide +kernel) (Nat.le_of_ble_eq_true rfl) (Nat.le_of_ble_eq_true rfl)) ?_
        show pmE pg X pg_tyl pg_cl (d) 57 0 [.ref 101, .ref 15] [] (cd f A R wr) _
        refine pe_aload_n (j := 0) (by decide +kernel) rfl ?_
        refine pe_aload_n (j := 1) (by decide +kernel) rfl ?_
        refine pe_get (j := 15) (ci := 5) (n := 0) (by decide +kernel) (by decide +kernel) cd_o15 rfl ?_
        have hr_f_240 := cf_240 hI
        refine cz_put1616 (jj := 15) (by decide +kernel) (by decide +kernel) hI (by omega) (by omega) (fun f3 ef3 hIf3 => ?_)
        refine pe_aload_n (j := 1) (by decide +kernel) rfl ?_
        refine pe_get (j := 9) (ci := 5) (n := 1) (by decide +kernel) (by decide +kernel) cd_o15 rfl ?_
        refine pe_iconstv (n := 0) (v := 0) (by decide +kernel) (by decide +kernel) ?_
        refine pe_aload_n (j := 0) (by decide +kernel) rfl ?_
        refine pe_get (j := 9) (ci := 5) (n := 1) (by decide +kernel) (by decide +kernel) cd_o101 rfl ?_
        refine pe_iconstv (n := 0) (v := 0) (by decide +kernel) (by decide +kernel) ?_
        refine pe_sipushv (n := 270) (v := 270) (by decide +kernel) (by decide +kernel) ?_
        have hl4 := kz_270
        have hl5 := kz_0
        have hl6 := kz_0
        refine cz_copy (j := 19) (a := 0) (b := 0) (c := 270) (by decide +kernel) (by decide +kernel) (Nat.le_of_ble_eq_true rfl) cd_a16 cd_a102 (by decide +kernel) (fun _ => cd_s102) hIf3 (cl_16 hIf3) (cl_102 hIf3) kz_0 kz_0 kz_270 (by omega) (by omega) (by omega) (by omega) (by omega) (Or.inl rfl) (ct_no (by decide +kernel)) (fun A7 eA7 hIA7 => ?_)
        refine pe_vret (by decide +kernel) rfl ⟨rfl, rfl, ?_⟩
        show pmE pg X pg_tyl pg_cl (d + 1) 71 72 [.ref 87, .ref 1, .int x2] [] (cd f3 A7 R wr) _
        refine pz_iinc (j := 2) (n := 1) (by decide +kernel) rfl rfl (by decide +kernel) (by omega) (by omega) (fun z8 hz8 => ?_)
        show pmE pg X pg_tyl pg_cl (d + 1) 71 75 [.ref 87, .ref 1, .int z8] [] (cd f3 A7 R wr) _
        refine pe_goto (off := (-26)) (t := 49) (by decide +kernel) (by decide) rfl ?_
        exact ih f3 A7 z8 hIA7 (fun k n1616 n1648 n1680 => (upf_fr ef3 n1616).trans ((hG k n1616 n1648 n1680))) (fun k n102 n104 n106 => (upa_fr eA7 n102).trans ((hF k n102 n104 n106))) (by omega) (by omega)
      · skip
        by_cases h9 : x2.toInt = 1
        · skip
          refine pz_aald (q := 103) (t := 4) (n := 3) (i := 1) (C := "RingVillage$Row") (by decide +kernel) cd_q89 rfl rfl rfl (by omega) (by decide +kernel) rfl ?_
          refine pe_aload_n (j := 1) (by decide +kernel) rfl ?_
          refine pe_get (j := 19) (ci := 8) (n := 1) (by decide +kernel) (by decide +kernel) cd_o1 rfl ?_
          refine pe_iload_n (j := 2) (by decide +kernel) rfl ?_
          refine pz_aald (q := 17) (t := 4) (n := 3) (i := 1) (C := "RingVillage$Row") (by decide +kernel) cd_q3 rfl rfl rfl (by omega) (by decide +kernel) rfl ?_
          refine pi_V (j := 43) (mj := 57) (by decide +kernel) (cll_V (args := [.ref 17]) (n := 1) (by decide +kernel) rfl rfl cd_o103 (by decide +kernel) (Nat.le_of_ble_eq_true rfl) (Nat.le_of_ble_eq_true rfl)) ?_
          show pmE pg X pg_tyl pg_cl (d) 57 0 [.ref 103, .ref 17] [] (cd f A R wr) _
          refine pe_aload_n (j := 0) (by decide +kernel) rfl ?_
          refine pe_aload_n (j := 1) (by decide +kernel) rfl ?_
          refine pe_get (j := 15) (ci := 5) (n := 0) (by decide +kernel) (by decide +kernel) cd_o17 rfl ?_
          have hr_f_272 := cf_272 hI
          refine cz_put1648 (jj := 15) (by decide +kernel) (by decide +kernel) hI (by omega) (by omega) (fun f10 ef10 hIf10 => ?_)
          refine pe_aload_n (j := 1) (by decide +kernel) rfl ?_
          refine pe_get (j := 9) (ci := 5) (n := 1) (by decide +kernel) (by decide +kernel) cd_o17 rfl ?_
          refine pe_iconstv (n := 0) (v := 0) (by decide +kernel) (by decide +kernel) ?_
          refine pe_aload_n (j := 0) (by decide +kernel) rfl ?_
          refine pe_get (j := 9) (ci := 5) (n := 1) (by decide +kernel) (by decide +kernel) cd_o103 rfl ?_
          refine pe_iconstv (n := 0) (v := 0) (by decide +kernel) (by decide +kernel) ?_
          refine pe_sipushv (n := 270) (v := 270) (by decide +kernel) (by decide +kernel) ?_
          have hl11 := kz_270
          have hl12 := kz_0
          have hl13 := kz_0
          refine cz_copy (j := 19) (a := 0) (b := 0) (c := 270) (by decide +kernel) (by decide +kernel) (Nat.le_of_ble_eq_true rfl) cd_a18 cd_a104 (by decide +kernel) (fun _ => cd_s104) hIf10 (cl_18 hIf10) (cl_104 hIf10) kz_0 kz_0 kz_270 (by omega) (by omega) (by omega) (by omega) (by omega) (Or.inl rfl) (ct_no (by decide +kernel)) (fun A14 eA14 hIA14 => ?_)
          refine pe_vret (by decide +kernel) rfl ⟨rfl, rfl, ?_⟩
          show pmE pg X pg_tyl pg_cl (d + 1) 71 72 [.ref 87, .ref 1, .int x2] [] (cd f10 A14 R wr) _
          refine pz_iinc (j := 2) (n := 1) (by decide +kernel) rfl rfl (by decide +kernel) (by omega) (by omega) (fun z15 hz15 => ?_)
          show pmE pg X pg_tyl pg_cl (d + 1) 71 75 [.ref 87, .ref 1, .int z15] [] (cd f10 A14 R wr) _
          refine pe_goto (off := (-26)) (t := 49) (by decide +kernel) (by decide) rfl ?_
          exact ih f10 A14 z15 hIA14 (fun k n1616 n1648 n1680 => (upf_fr ef10 n1648).trans ((hG k n1616 n1648 n1680))) (fun k n102 n104 n106 => (upa_fr eA14 n104).trans ((hF k n102 n104 n106))) (by omega) (by omega)
        · skip
          refine pz_aald (q := 105) (t := 4) (n := 3) (i := 2) (C := "RingVillage$Row") (by decide +kernel) cd_q89 rfl rfl rfl (by omega) (by decide +kernel) rfl ?_
          refine pe_aload_n (j := 1) (by decide +kernel) rfl ?_
          refine pe_get (j := 19) (ci := 8) (n := 1) (by decide +kernel) (by decide +kernel) cd_o1 rfl ?_
          refine pe_iload_n (j := 2) (by decide +kernel) rfl ?_
          refine pz_aald (q := 19) (t := 4) (n := 3) (i := 2) (C := "RingVillage$Row") (by decide +kernel) cd_q3 rfl rfl rfl (by omega) (by decide +kernel) rfl ?_
          refine pi_V (j := 43) (mj := 57) (by decide +kernel) (cll_V (args := [.ref 19]) (n := 1) (by decide +kernel) rfl rfl cd_o105 (by decide +kernel) (Nat.le_of_ble_eq_true rfl) (Nat.le_of_ble_eq_true rfl)) ?_
          show pmE pg X pg_tyl pg_cl (d) 57 0 [.ref 105, .ref 19] [] (cd f A R wr) _
          refine pe_aload_n (j := 0) (by decide +kernel) rfl ?_
          refine pe_aload_n (j := 1) (by decide +kernel) rfl ?_
          refine pe_get (j := 15) (ci := 5) (n := 0) (by decide +kernel) (by decide +kernel) cd_o19 rfl ?_
          have hr_f_304 := cf_304 hI
          refine cz_put1680 (jj := 15) (by decide +kernel) (by decide +kernel) hI (by omega) (by omega) (fun f16 ef16 hIf16 => ?_)
          refine pe_aload_n (j := 1) (by decide +kernel) rfl ?_
          refine pe_get (j := 9) (ci := 5) (n := 1) (by decide +kernel) (by decide +kernel) cd_o19 rfl ?_
          refine pe_iconstv (n := 0) (v := 0) (by decide +kernel) (by decide +kernel) ?_
          refine pe_aload_n (j := 0) (by decide +kernel) rfl ?_
          refine pe_get (j := 9) (ci := 5) (n := 1) (by decide +kernel) (by decide +kernel) cd_o105 rfl ?_
          refine pe_iconstv (n := 0) (v := 0) (by decide +kernel) (by decide +kernel) ?_
          refine pe_sipushv (n := 270) (v := 270) (by decide +kernel) (by decide +kernel) ?_
          have hl17 := kz_270
          have hl18 := kz_0
          have hl19 := kz_0
          refine cz_copy (j := 19) (a := 0) (b := 0) (c := 270) (by decide +kernel) (by decide +kernel) (Nat.le_of_ble_eq_true rfl) cd_a20 cd_a106 (by decide +kernel) (fun _ => cd_s106) hIf16 (cl_20 hIf16) (cl_106 hIf16) kz_0 kz_0 kz_270 (by omega) (by omega) (by omega) (by omega) (by omega) (Or.inl rfl) (ct_no (by decide +kernel)) (fun A20 eA20 hIA20 => ?_)
          refine pe_vret (by decide +kernel) rfl ⟨rfl, rfl, ?_⟩
          show pmE pg X pg_tyl pg_cl (d + 1) 71 72 [.ref 87, .ref 1, .int x2] [] (cd f16 A20 R wr) _
          refine pz_iinc (j := 2) (n := 1) (by decide +kernel) rfl rfl (by decide +kernel) (by omega) (by omega) (fun z21 hz21 => ?_)
          show pmE pg X pg_tyl pg_cl (d + 1) 71 75 [.ref 87, .ref 1, .int z21] [] (cd f16 A20 R wr) _
          refine pe_goto (off := (-26)) (t := 49) (by decide +kernel) (by decide) rfl ?_
          exact ih f16 A20 z21 hIA20 (fun k n1616 n1648 n1680 => (upf_fr ef16 n1680).trans ((hG k n1616 n1648 n1680))) (fun k n102 n104 n106 => (upa_fr eA20 n106).trans ((hF k n102 n104 n106))) (by omega) (by omega)
set_option maxRecDepth 100000 in
set_option maxHeartbeats 8000000 in
theorem CL_71_18 {X : pm_X} {d : Nat} {wr : pm_W} {Q : pm_R → Prop} {f0 : Nat → Int32} {A0 : Nat → List Int32} {R : Nat → Value} (hX : XO X) (k_47_0 : ∀ (f' : Nat → Int32) (A' : Nat → List Int32) (y2 : Int32), CI f' A' R → (∀ k : Nat, k ≠ 1456 → k ≠ 1457 → k ≠ 1458 → k ≠ 1536 → k ≠ 1537 → k ≠ 1538 → f' k = f0 k) → (∀ k : Nat, k ≠ 92 → k ≠ 93 → k ≠ 94 → k ≠ 95 → k ≠ 97 → k ≠ 98 → k ≠ 99 → k ≠ 100 → A' k = A0 k) → (0 ≤ y2.toInt ∧ y2.toInt ≤ 2) → pmE pg X pg_tyl pg_cl (d + 1) 71 47 [.ref 87, .ref 1, .int y2] [] (cd f' A' R wr) Q) : ∀ (m : Nat) (f : Nat → Int32) (A : Nat → List Int32) (x2 : Int32), CI f A R → (∀ k : Nat, k ≠ 1456 → k ≠ 1457 → k ≠ 1458 → k ≠ 1536 → k ≠ 1537 → k ≠ 1538 → f k = f0 k) → (∀ k : Nat, k ≠ 92 → k ≠ 93 → k ≠ 94 → k ≠ 95 → k ≠ 97 → k ≠ 98 → k ≠ 99 → k ≠ 100 → A k = A0 k) → (0 ≤ x2.toInt ∧ x2.toInt ≤ 2) → 2 - x2.toInt < (m : Int) → pmE pg X pg_tyl pg_cl (d + 1) 71 18 [.ref 87, .ref 1, .int x2] [] (cd f A R wr) Q := by
  intro m
  induction m with
  | zero =>
    intro f A x2 hI hG hF gx2 hm
    exfalso
    have l0 := zi_lo x2
    have u0 := zi_hi x2
    omega
  | succ m ih =>
    intro f A x2 hI hG hF gx2 hm
    refine pe_iload_n (j := 2) (by decide +kernel) rfl ?_
    refine pe_aload_n (j := 0) (by decide +kernel) rfl ?_
    refine pe_get (j := 33) (ci := 8) (n := 2) (by decide +kernel) (by decide +kernel) cd_o87 rfl ?_
    have hr_f_1394 := cf_1394 hI
    refine pz_icmp_ge (off := 24) (t := 47) (by decide +kernel) (by decide) rfl rfl rfl (fun h1 => ?_) (fun h1 => ?_)
    · skip
      exact k_47_0 f A x2 hI (fun k n1456 n1457 n1458 n1536 n1537 n1538 => (hG k n1456 n1457 n1458 n1536 n1537 n1538)) (fun k n92 n93 n94 n95 n97 n98 n99 n100 => (hF k n92 n93 n94 n95 n97 n98 n99 n100)) (by omega)
    · skip
      refine pe_aload_n (j := 0) (by decide +kernel) rfl ?_
      refine pe_get (j := 11) (ci := 8) (n := 0) (by decide +kernel) (by decide +kernel) cd_o87 rfl ?_
      refine pe_iload_n (j := 2) (by decide +kernel) rfl ?_
      by_cases h2 : x2.toInt = 0
      · skip
        refine pz_aald (q := 91) (t := 3) (n := 2) (i := 0) (C := "RingVillage$Village") (by decide +kernel) cd_q88 rfl rfl rfl (by omega) (by decide +kernel) rfl ?_
        refine pe_aload_n (j := 1) (by decide +kernel) rfl ?_
        refine pe_get (j := 11) (ci := 8) (n := 0) (by decide +kernel) (by decide +kernel) cd_o1 rfl ?_
        refine pe_iload_n (j := 2) (by decide +kernel) rfl ?_
        refine pz_aald (q := 5) (t := 3) (n := 2) (i := 0) (C := "RingVillage$Village") (by decide +kernel) cd_q2 rfl rfl rfl (by omega) (by decide +kernel) rfl ?_
        refine pi_V (j := 39) (mj := 56) (by decide +kernel) (cll_V (args := [.ref 5]) (n := 1) (by decide +kernel) rfl rfl cd_o91 (by decide +kernel) (Nat.le_of_ble_eq_true rfl) (Nat.le_of_ble_eq_true rfl)) ?_
        show pmE pg X pg_tyl pg_cl (d) 56 0 [.ref 91, .ref 5] [] (cd f A R wr) _
        refine pe_aload_n (j := 0) (by decide +kernel) rfl ?_
        refine pe_aload_n (j := 1) (by decide +kernel) rfl ?_
        refine pe_get (j := 9) (ci := 9) (n := 0) (by decide +kernel) (by decide +kernel) cd_o5 rfl ?_
        have hr_f_80 := cf_80 hI
        refine cz_put1456 (jj := 9) (by decide +kernel) (by decide +kernel) hI (by omega) (by omega) (fun f3 ef3 hIf3 => ?_)
        refine pe_aload_n (j := 0) (by decide +kernel) rfl ?_
        refine pe_aload_n (j := 1) (by decide +kernel) rfl ?_
        refine pe_get (j := 28) (ci := 9) (n := 1) (by decide +kernel) (by decide +kernel) cd_o5 rfl ?_
        refine pe_top (v := (f 81)) (upf_fr ef3 (by decide)) ?_
        refine cz_put1457 (jj := 28) (by decide +kernel) (by decide +kernel) hIf3 (fun f4 ef4 hIf4 => ?_)
        refine pe_aload_n (j := 0) (by decide +kernel) rfl ?_
        refine pe_aload_n (j := 1) (by decide +kernel) rfl ?_
        refine pe_get (j := 31) (ci := 9) (n := 2) (by decide +kernel) (by decide +kernel) cd_o5 rfl ?_
        have hr_f_82 := cf_82 hI
        refine pe_top (v := (f 82)) ((upf_fr ef4 (by decide)).trans (upf_fr ef3 (by decide))) ?_
        refine cz_put1458 (jj := 31) (by decide +kernel) (by decide +kernel) hIf4 (by omega) (by omega) (fun f5 ef5 hIf5 => ?_)
        refine pe_aload_n (j := 1) (by decide +kernel) rfl ?_
        refine pe_get (j := 15) (ci := 9) (n := 3) (by decide +kernel) (by decide +kernel) cd_o5 rfl ?_
        refine pe_iconstv (n := 0) (v := 0) (by decide +kernel) (by decide +kernel) ?_
        refine pe_aload_n (j := 0) (by decide +kernel) rfl ?_
        refine pe_get (j := 15) (ci := 9) (n := 3) (by decide +kernel) (by decide +kernel) cd_o91 rfl ?_
        refine pe_iconstv (n := 0) (v := 0) (by decide +kernel) (by decide +kernel) ?_
        refine pe_bipushv (n := 81) (v := 81) (by decide +kernel) (by decide +kernel) ?_
        have hl6 := kz_81
        have hl7 := kz_0
        have hl8 := kz_0
        refine cz_copy (j := 40) (a := 0) (b := 0) (c := 81) (by decide +kernel) (by decide +kernel) (Nat.le_of_ble_eq_true rfl) cd_a6 cd_a92 (by decide +kernel) (fun _ => cd_s92) hIf5 (cl_6 hIf5) (cl_92 hIf5) kz_0 kz_0 kz_81 (by omega) (by omega) (by omega) (by omega) (by omega) (Or.inl rfl) (ct_no (by decide +kernel)) (fun A9 eA9 hIA9 => ?_)
        refine pe_aload_n (j := 1) (by decide +kernel) rfl ?_
        refine pe_get (j := 19) (ci := 9) (n := 4) (by decide +kernel) (by decide +kernel) cd_o5 rfl ?_
        refine pe_iconstv (n := 0) (v := 0) (by decide +kernel) (by decide +kernel) ?_
        refine pe_aload_n (j := 0) (by decide +kernel) rfl ?_
        refine pe_get (j := 19) (ci := 9) (n := 4) (by decide +kernel) (by decide +kernel) cd_o91 rfl ?_
        refine pe_iconstv (n := 0) (v := 0) (by decide +kernel) (by decide +kernel) ?_
        refine pe_bipushv (n := 9) (v := 9) (by decide +kernel) (by decide +kernel) ?_
        have hl10 := kz_9
        have hl11 := kz_0
        have hl12 := kz_0
        refine cz_copy (j := 40) (a := 0) (b := 0) (c := 9) (by decide +kernel) (by decide +kernel) (Nat.le_of_ble_eq_true rfl) cd_a7 cd_a93 (by decide +kernel) (fun _ => cd_s93) hIA9 (cl_7 hIA9) (cl_93 hIA9) kz_0 kz_0 kz_9 (by omega) (by omega) (by omega) (by omega) (by omega) (Or.inl rfl) (ct_no (by decide +kernel)) (fun A13 eA13 hIA13 => ?_)
        refine pe_aload_n (j := 1) (by decide +kernel) rfl ?_
        refine pe_get (j := 22) (ci := 9) (n := 5) (by decide +kernel) (by decide +kernel) cd_o5 rfl ?_
        refine pe_iconstv (n := 0) (v := 0) (by decide +kernel) (by decide +kernel) ?_
        refine pe_aload_n (j := 0) (by decide +kernel) rfl ?_
        refine pe_get (j := 22) (ci := 9) (n := 5) (by decide +kernel) (by decide +kernel) cd_o91 rfl ?_
        refine pe_iconstv (n := 0) (v := 0) (by decide +kernel) (by decide +kernel) ?_
        refine pe_bipushv (n := 9) (v := 9) (by decide +kernel) (by decide +kernel) ?_
        have hl14 := kz_9
        have hl15 := kz_0
        have hl16 := kz_0
        refine cz_copy (j := 40) (a := 0) (b := 0) (c := 9) (by decide +kernel) (by decide +kernel) (Nat.le_of_ble_eq_true rfl) cd_a8 cd_a94 (by decide +kernel) (fun _ => cd_s94) hIA13 (cl_8 hIA13) (cl_94 hIA13) kz_0 kz_0 kz_9 (by omega) (by omega) (by omega) (by omega) (by omega) (Or.inl rfl) (ct_no (by decide +kernel)) (fun A17 eA17 hIA17 => ?_)
        refine pe_aload_n (j := 1) (by decide +kernel) rfl ?_
        refine pe_get (j := 25) (ci := 9) (n := 6) (by decide +kernel) (by decide +kernel) cd_o5 rfl ?_
        refine pe_iconstv (n := 0) (v := 0) (by decide +kernel) (by decide +kernel) ?_
        refine pe_aload_n (j := 0) (by decide +kernel) rfl ?_
        refine pe_get (j := 25) (ci := 9) (n := 6) (by decide +kernel) (by decide +kernel) cd_o91 rfl ?_
        refine pe_iconstv (n := 0) (v := 0) (by decide +kernel) (by decide +kernel) ?_
        refine pe_bipushv (n := 28) (v := 28) (by decide +kernel) (by decide +kernel) ?_
        have hl18 := kz_28
        have hl19 := kz_0
        have hl20 := kz_0
        refine cz_copy (j := 40) (a := 0) (b := 0) (c := 28) (by decide +kernel) (by decide +kernel) (Nat.le_of_ble_eq_true rfl) cd_a9 cd_a95 (by decide +kernel) (fun _ => cd_s95) hIA17 (cl_9 hIA17) (cl_95 hIA17) kz_0 kz_0 kz_28 (by omega) (by omega) (by omega) (by omega) (by omega) (Or.inl rfl) (ct_one (kd := 0) (P := fun kd => ∀ i, i < (28 : Int).toNat → CT kd ((0 : Int).toNat + i) ((A17 9).getD ((0 : Int).toNat + i) 0).toInt) (by decide +kernel) (fun i _ => ct_9 hIA17 rfl)) (fun A21 eA21 hIA21 => ?_)
        refine pe_vret (by decide +kernel) rfl ⟨rfl, rfl, ?_⟩
        show pmE pg X pg_tyl pg_cl (d + 1) 71 41 [.ref 87, .ref 1, .int x2] [] (cd f5 A21 R wr) _
        refine pz_iinc (j := 2) (n := 1) (by decide +kernel) rfl rfl (by decide +kernel) (by omega) (by omega) (fun z22 hz22 => ?_)
        show pmE pg X pg_tyl pg_cl (d + 1) 71 44 [.ref 87, .ref 1, .int z22] [] (cd f5 A21 R wr) _
        refine pe_goto (off := (-26)) (t := 18) (by decide +kernel) (by decide) rfl ?_
        exact ih f5 A21 z22 hIA21 (fun k n1456 n1457 n1458 n1536 n1537 n1538 => (upf_fr ef5 n1458).trans ((upf_fr ef4 n1457).trans ((upf_fr ef3 n1456).trans ((hG k n1456 n1457 n1458 n1536 n1537 n1538))))) (fun k n92 n93 n94 n95 n97 n98 n99 n100 => (upa_fr eA21 n95).trans ((upa_fr eA17 n94).trans ((upa_fr eA13 n93).trans ((upa_fr eA9 n92).trans ((hF k n92 n93 n94 n95 n97 n98 n99 n100)))))) (by omega) (by omega)
      · skip
        refine pz_aald (q := 96) (t := 3) (n := 2) (i := 1) (C := "RingVillage$Village") (by decide +kernel) cd_q88 rfl rfl rfl (by omega) (by decide +kernel) rfl ?_
        refine pe_aload_n (j := 1) (by decide +kernel) rfl ?_
        refine pe_get (j := 11) (ci := 8) (n := 0) (by decide +kernel) (by decide +kernel) cd_o1 rfl ?_
        refine pe_iload_n (j := 2) (by decide +kernel) rfl ?_
        refine pz_aald (q := 10) (t := 3) (n := 2) (i := 1) (C := "RingVillage$Village") (by decide +kernel) cd_q2 rfl rfl rfl (by omega) (by decide +kernel) rfl ?_
        refine pi_V (j := 39) (mj := 56) (by decide +kernel) (cll_V (args := [.ref 10]) (n := 1) (by decide +kernel) rfl rfl cd_o96 (by decide +kernel) (Nat.le_of_ble_eq_true rfl) (Nat.le_of_ble_eq_true rfl)) ?_
        show pmE pg X pg_tyl pg_cl (d) 56 0 [.ref 96, .ref 10] [] (cd f A R wr) _
        refine pe_aload_n (j := 0) (by decide +kernel) rfl ?_
        refine pe_aload_n (j := 1) (by decide +kernel) rfl ?_
        refine pe_get (j := 9) (ci := 9) (n := 0) (by decide +kernel) (by decide +kernel) cd_o10 rfl ?_
        have hr_f_160 := cf_160 hI
        refine cz_put1536 (jj := 9) (by decide +kernel) (by decide +kernel) hI (by omega) (by omega) (fun f23 ef23 hIf23 => ?_)
        refine pe_aload_n (j := 0) (by decide +kernel) rfl ?_
        refine pe_aload_n (j := 1) (by decide +kernel) rfl ?_
        refine pe_get (j := 28) (ci := 9) (n := 1) (by decide +kernel) (by decide +kernel) cd_o10 rfl ?_
        refine pe_top (v := (f 161)) (upf_fr ef23 (by decide)) ?_
        refine cz_put1537 (jj := 28) (by decide +kernel) (by decide +kernel) hIf23 (fun f24 ef24 hIf24 => ?_)
        refine pe_aload_n (j := 0) (by decide +kernel) rfl ?_
        refine pe_aload_n (j := 1) (by decide +kernel) rfl ?_
        refine pe_get (j := 31) (ci := 9) (n := 2) (by decide +kernel) (by decide +kernel) cd_o10 rfl ?_
        have hr_f_162 := cf_162 hI
        refine pe_top (v := (f 162)) ((upf_fr ef24 (by decide)).trans (upf_fr ef23 (by decide))) ?_
        refine cz_put1538 (jj := 31) (by decide +kernel) (by decide +kernel) hIf24 (by omega) (by omega) (fun f25 ef25 hIf25 => ?_)
        refine pe_aload_n (j := 1) (by decide +kernel) rfl ?_
        refine pe_get (j := 15) (ci := 9) (n := 3) (by decide +kernel) (by decide +kernel) cd_o10 rfl ?_
        refine pe_iconstv (n := 0) (v := 0) (by decide +kernel) (by decide +kernel) ?_
        refine pe_aload_n (j := 0) (by decide +kernel) rfl ?_
        refine pe_get (j := 15) (ci := 9) (n := 3) (by decide +kernel) (by decide +kernel) cd_o96 rfl ?_
        refine pe_iconstv (n := 0) (v := 0) (by decide +kernel) (by decide +kernel) ?_
        refine pe_bipushv (n := 81) (v := 81) (by decide +kernel) (by decide +kernel) ?_
        have hl26 := kz_81
        have hl27 := kz_0
        have hl28 := kz_0
        refine cz_copy (j := 40) (a := 0) (b := 0) (c := 81) (by decide +kernel) (by decide +kernel) (Nat.le_of_ble_eq_true rfl) cd_a11 cd_a97 (by decide +kernel) (fun _ => cd_s97) hIf25 (cl_11 hIf25) (cl_97 hIf25) kz_0 kz_0 kz_81 (by omega) (by omega) (by omega) (by omega) (by omega) (Or.inl rfl) (ct_no (by decide +kernel)) (fun A29 eA29 hIA29 => ?_)
        refine pe_aload_n (j := 1) (by decide +kernel) rfl ?_
        refine pe_get (j := 19) (ci := 9) (n := 4) (by decide +kernel) (by decide +kernel) cd_o10 rfl ?_
        refine pe_iconstv (n := 0) (v := 0) (by decide +kernel) (by decide +kernel) ?_
        refine pe_aload_n (j := 0) (by decide +kernel) rfl ?_
        refine pe_get (j := 19) (ci := 9) (n := 4) (by decide +kernel) (by decide +kernel) cd_o96 rfl ?_
        refine pe_iconstv (n := 0) (v := 0) (by decide +kernel) (by decide +kernel) ?_
        refine pe_bipushv (n := 9) (v := 9) (by decide +kernel) (by decide +kernel) ?_
        have hl30 := kz_9
        have hl31 := kz_0
        have hl32 := kz_0
        refine cz_copy (j := 40) (a := 0) (b := 0) (c := 9) (by decide +kernel) (by decide +kernel) (Nat.le_of_ble_eq_true rfl) cd_a12 cd_a98 (by decide +kernel) (fun _ => cd_s98) hIA29 (cl_12 hIA29) (cl_98 hIA29) kz_0 kz_0 kz_9 (by omega) (by omega) (by omega) (by omega) (by omega) (Or.inl rfl) (ct_no (by decide +kernel)) (fun A33 eA33 hIA33 => ?_)
        refine pe_aload_n (j := 1) (by decide +kernel) rfl ?_
        refine pe_get (j := 22) (ci := 9) (n := 5) (by decide +kernel) (by decide +kernel) cd_o10 rfl ?_
        refine pe_iconstv (n := 0) (v := 0) (by decide +kernel) (by decide +kernel) ?_
        refine pe_aload_n (j := 0) (by decide +kernel) rfl ?_
        refine pe_get (j := 22) (ci := 9) (n := 5) (by decide +kernel) (by decide +kernel) cd_o96 rfl ?_
        refine pe_iconstv (n := 0) (v := 0) (by decide +kernel) (by decide +kernel) ?_
        refine pe_bipushv (n := 9) (v := 9) (by decide +kernel) (by decide +kernel) ?_
        have hl34 := kz_9
        have hl35 := kz_0
        have hl36 := kz_0
        refine cz_copy (j := 40) (a := 0) (b := 0) (c := 9) (by decide +kernel) (by decide +kernel) (Nat.le_of_ble_eq_true rfl) cd_a13 cd_a99 (by decide +kernel) (fun _ => cd_s99) hIA33 (cl_13 hIA33) (cl_99 hIA33) kz_0 kz_0 kz_9 (by omega) (by omega) (by omega) (by omega) (by omega) (Or.inl rfl) (ct_no (by decide +kernel)) (fun A37 eA37 hIA37 => ?_)
        refine pe_aload_n (j := 1) (by decide +kernel) rfl ?_
        refine pe_get (j := 25) (ci := 9) (n := 6) (by decide +kernel) (by decide +kernel) cd_o10 rfl ?_
        refine pe_iconstv (n := 0) (v := 0) (by decide +kernel) (by decide +kernel) ?_
        refine pe_aload_n (j := 0) (by decide +kernel) rfl ?_
        refine pe_get (j := 25) (ci := 9) (n := 6) (by decide +kernel) (by decide +kernel) cd_o96 rfl ?_
        refine pe_iconstv (n := 0) (v := 0) (by decide +kernel) (by decide +kernel) ?_
        refine pe_bipushv (n := 28) (v := 28) (by decide +kernel) (by decide +kernel) ?_
        have hl38 := kz_28
        have hl39 := kz_0
        have hl40 := kz_0
        refine cz_copy (j := 40) (a := 0) (b := 0) (c := 28) (by decide +kernel) (by decide +kernel) (Nat.le_of_ble_eq_true rfl) cd_a14 cd_a100 (by decide +kernel) (fun _ => cd_s100) hIA37 (cl_14 hIA37) (cl_100 hIA37) kz_0 kz_0 kz_28 (by omega) (by omega) (by omega) (by omega) (by omega) (Or.inl rfl) (ct_one (kd := 0) (P := fun kd => ∀ i, i < (28 : Int).toNat → CT kd ((0 : Int).toNat + i) ((A37 14).getD ((0 : Int).toNat + i) 0).toInt) (by decide +kernel) (fun i _ => ct_14 hIA37 rfl)) (fun A41 eA41 hIA41 => ?_)
        refine pe_vret (by decide +kernel) rfl ⟨rfl, rfl, ?_⟩
        show pmE pg X pg_tyl pg_cl (d + 1) 71 41 [.ref 87, .ref 1, .int x2] [] (cd f25 A41 R wr) _
        refine pz_iinc (j := 2) (n := 1) (by decide +kernel) rfl rfl (by decide +kernel) (by omega) (by omega) (fun z42 hz42 => ?_)
        show pmE pg X pg_tyl pg_cl (d + 1) 71 44 [.ref 87, .ref 1, .int z42] [] (cd f25 A41 R wr) _
        refine pe_goto (off := (-26)) (t := 18) (by decide +kernel) (by decide) rfl ?_
        exact ih f25 A41 z42 hIA41 (fun k n1456 n1457 n1458 n1536 n1537 n1538 => (upf_fr ef25 n1538).trans ((upf_fr ef24 n1537).trans ((upf_fr ef23 n1536).trans ((hG k n1456 n1457 n1458 n1536 n1537 n1538))))) (fun k n92 n93 n94 n95 n97 n98 n99 n100 => (upa_fr eA41 n100).trans ((upa_fr eA37 n99).trans ((upa_fr eA33 n98).trans ((upa_fr eA29 n97).trans ((hF k n92 n93 n94 n95 n97 n98 n99 n100)))))) (by omega) (by omega)
set_option maxRecDepth 100000 in
set_option maxHeartbeats 8000000 in
theorem CM_71 {X : pm_X} {d : Nat} {wr : pm_W} {f : Nat → Int32} {A : Nat → List Int32} {R : Nat → Value} (hX : XO X) (hI : CI f A R) : pmE pg X pg_tyl pg_cl (d + 1) 71 0 (pm_ent (pm_max pg 71) [.ref 87, .ref 1]) [] (cd f A R wr) (fun q => ∃ (f' : Nat → Int32) (A' : Nat → List Int32), q = (none, cd f' A' R wr, 0, 0) ∧ CI f' A' R ∧ (∀ k : Nat, k ≠ 1394 → k ≠ 1395 → k ≠ 1397 → k ≠ 1398 → k ≠ 1399 → k ≠ 1456 → k ≠ 1457 → k ≠ 1458 → k ≠ 1536 → k ≠ 1537 → k ≠ 1538 → k ≠ 1616 → k ≠ 1648 → k ≠ 1680 → f' k = f k) ∧ (∀ k : Nat, k ≠ 90 → k ≠ 92 → k ≠ 93 → k ≠ 94 → k ≠ 95 → k ≠ 97 → k ≠ 98 → k ≠ 99 → k ≠ 100 → k ≠ 102 → k ≠ 104 → k ≠ 106 → A' k = A k) ∧ ((f' 1397).toInt + (-1) * (f 21).toInt) ≤ 0 ∧ ((-1) * (f' 1397).toInt + (f 21).toInt) ≤ 0 ∧ ((True))) := by
  show pmE pg X pg_tyl pg_cl (d + 1) 71 0 [.ref 87, .ref 1, pm_dead] [] (cd f A R wr) _
  refine pe_aload_n (j := 0) (by decide +kernel) rfl ?_
  refine pe_aload_n (j := 1) (by decide +kernel) rfl ?_
  refine pe_get (j := 33) (ci := 8) (n := 2) (by decide +kernel) (by decide +kernel) cd_o1 rfl ?_
  have hr_f_18 := cf_18 hI
  refine cz_put1394 (jj := 33) (by decide +kernel) (by decide +kernel) hI (by omega) (by omega) (fun f1 ef1 hIf1 => ?_)
  refine pe_aload_n (j := 0) (by decide +kernel) rfl ?_
  refine pe_aload_n (j := 1) (by decide +kernel) rfl ?_
  refine pe_get (j := 36) (ci := 8) (n := 3) (by decide +kernel) (by decide +kernel) cd_o1 rfl ?_
  have hr_f_19 := cf_19 hI
  refine pe_top (v := (f 19)) (upf_fr ef1 (by decide)) ?_
  refine cz_put1395 (jj := 36) (by decide +kernel) (by decide +kernel) hIf1 (by omega) (by omega) (fun f2 ef2 hIf2 => ?_)
  refine pe_iconstv (n := 0) (v := 0) (by decide +kernel) (by decide +kernel) ?_
  refine pe_istore_n (j := 2) (ls' := [.ref 87, .ref 1, .int 0]) (by decide +kernel) (Nat.le_of_ble_eq_true rfl) rfl ?_
  refine CL_71_18 hX (fun f3 A4 y5 hIy6 hGf3 hFA4 gy5 => ?_) 3 f2 A 0 hIf2 (fun k _ _ _ _ _ _ => rfl) (fun k _ _ _ _ _ _ _ _ => rfl) (by decide +kernel) (by decide +kernel)
  refine pe_iconstv (n := 0) (v := 0) (by decide +kernel) (by decide +kernel) ?_
  refine pe_istore_n (j := 2) (ls' := [.ref 87, .ref 1, .int 0]) (by decide +kernel) (Nat.le_of_ble_eq_true rfl) rfl ?_
  refine CL_71_49 hX (fun f7 A8 y9 hIy10 hGf7 hFA8 gy9 => ?_) 4 f3 A4 0 hIy6 (fun k _ _ _ => rfl) (fun k _ _ _ => rfl) (by decide +kernel) (by decide +kernel)
  refine pe_aload_n (j := 0) (by decide +kernel) rfl ?_
  refine pe_aload_n (j := 1) (by decide +kernel) rfl ?_
  refine pe_get (j := 46) (ci := 8) (n := 5) (by decide +kernel) (by decide +kernel) cd_o1 rfl ?_
  have hr_f_21 := cf_21 hI
  refine pe_top (v := (f 21)) (((hGf7 21 (by decide) (by decide) (by decide))).trans (((hGf3 21 (by decide) (by decide) (by decide) (by decide) (by decide) (by decide))).trans ((upf_fr ef2 (by decide)).trans (upf_fr ef1 (by decide))))) ?_
  refine cz_put1397 (jj := 46) (by decide +kernel) (by decide +kernel) hIy10 (by omega) (by omega) (fun f11 ef11 hIf11 => ?_)
  refine pe_aload_n (j := 1) (by decide +kernel) rfl ?_
  refine pe_get (j := 23) (ci := 8) (n := 4) (by decide +kernel) (by decide +kernel) cd_o1 rfl ?_
  refine pe_iconstv (n := 0) (v := 0) (by decide +kernel) (by decide +kernel) ?_
  refine pe_aload_n (j := 0) (by decide +kernel) rfl ?_
  refine pe_get (j := 23) (ci := 8) (n := 4) (by decide +kernel) (by decide +kernel) cd_o87 rfl ?_
  refine pe_iconstv (n := 0) (v := 0) (by decide +kernel) (by decide +kernel) ?_
  refine pe_aload_n (j := 0) (by decide +kernel) rfl ?_
  refine pe_get (j := 46) (ci := 8) (n := 5) (by decide +kernel) (by decide +kernel) cd_o87 rfl ?_
  refine pe_top (v := (f 21)) (upf_at ef11) ?_
  have hl12 := kz_0
  have hl13 := kz_0
  refine cz_copy (j := 49) (a := 0) (b := 0) (c := (f 21).toInt) (by decide +kernel) (by decide +kernel) (Nat.le_of_ble_eq_true rfl) cd_a4 cd_a90 (by decide +kernel) (fun _ => cd_s90) hIf11 (cl_4 hIf11) (cl_90 hIf11) kz_0 kz_0 rfl (by omega) (by omega) (by omega) (by omega) (by omega) (Or.inr (fun i => fits_b (ct_4 hIf11 rfl))) (ct_one (kd := 7) (P := fun kd => ∀ i, i < ((f 21).toInt : Int).toNat → CT kd ((0 : Int).toNat + i) ((A8 4).getD ((0 : Int).toNat + i) 0).toInt) (by decide +kernel) (fun i _ => ct_4 hIf11 rfl)) (fun A14 eA14 hIA14 => ?_)
  refine pe_aload_n (j := 0) (by decide +kernel) rfl ?_
  refine pe_aload_n (j := 1) (by decide +kernel) rfl ?_
  refine pe_get (j := 55) (ci := 8) (n := 6) (by decide +kernel) (by decide +kernel) cd_o1 rfl ?_
  refine pe_top (v := (f 22)) ((upf_fr ef11 (by decide)).trans (((hGf7 22 (by decide) (by decide) (by decide))).trans (((hGf3 22 (by decide) (by decide) (by decide) (by decide) (by decide) (by decide))).trans ((upf_fr ef2 (by decide)).trans (upf_fr ef1 (by decide)))))) ?_
  refine cz_put1398 (jj := 55) (by decide +kernel) (by decide +kernel) hIA14 (fun f15 ef15 hIf15 => ?_)
  refine pe_aload_n (j := 0) (by decide +kernel) rfl ?_
  refine pe_aload_n (j := 1) (by decide +kernel) rfl ?_
  refine pe_get (j := 27) (ci := 8) (n := 7) (by decide +kernel) (by decide +kernel) cd_o1 rfl ?_
  refine pe_top (v := (f 23)) ((upf_fr ef15 (by decide)).trans ((upf_fr ef11 (by decide)).trans (((hGf7 23 (by decide) (by decide) (by decide))).trans (((hGf3 23 (by decide) (by decide) (by decide) (by decide) (by decide) (by decide))).trans ((upf_fr ef2 (by decide)).trans (upf_fr ef1 (by decide))))))) ?_
  refine cz_put1399 (jj := 27) (by decide +kernel) (by decide +kernel) hIf15 (fun f16 ef16 hIf16 => ?_)
  have hx17 : (f16 1397).toInt = (f 21).toInt := (congrArg Int32.toInt (show f16 1397 = (f 21) from (upf_fr ef16 (by decide)).trans ((upf_fr ef15 (by decide)).trans (upf_at ef11)))).trans rfl
  have hx18 : (f16 21).toInt = (f 21).toInt := (congrArg Int32.toInt (show f16 21 = (f 21) from (upf_fr ef16 (by decide)).trans ((upf_fr ef15 (by decide)).trans ((upf_fr ef11 (by decide)).trans (((hGf7 21 (by decide) (by decide) (by decide))).trans (((hGf3 21 (by decide) (by decide) (by decide) (by decide) (by decide) (by decide))).trans ((upf_fr ef2 (by decide)).trans (upf_fr ef1 (by decide))))))))).trans rfl
  have hx19 : (f16 1397).toInt = (f 21).toInt := (congrArg Int32.toInt (show f16 1397 = (f 21) from (upf_fr ef16 (by decide)).trans ((upf_fr ef15 (by decide)).trans (upf_at ef11)))).trans rfl
  have hx20 : (f16 21).toInt = (f 21).toInt := (congrArg Int32.toInt (show f16 21 = (f 21) from (upf_fr ef16 (by decide)).trans ((upf_fr ef15 (by decide)).trans ((upf_fr ef11 (by decide)).trans (((hGf7 21 (by decide) (by decide) (by decide))).trans (((hGf3 21 (by decide) (by decide) (by decide) (by decide) (by decide) (by decide))).trans ((upf_fr ef2 (by decide)).trans (upf_fr ef1 (by decide))))))))).trans rfl
  exact pe_vret (by decide +kernel) rfl ⟨f16, A14, rfl, hIf16, (fun k n1394 n1395 n1397 n1398 n1399 n1456 n1457 n1458 n1536 n1537 n1538 n1616 n1648 n1680 => (upf_fr ef16 n1399).trans ((upf_fr ef15 n1398).trans ((upf_fr ef11 n1397).trans (((hGf7 k n1616 n1648 n1680)).trans (((hGf3 k n1456 n1457 n1458 n1536 n1537 n1538)).trans ((upf_fr ef2 n1395).trans (upf_fr ef1 n1394))))))), (fun k n90 n92 n93 n94 n95 n97 n98 n99 n100 n102 n104 n106 => (upa_fr eA14 n90).trans (((hFA8 k n102 n104 n106)).trans ((hFA4 k n92 n93 n94 n95 n97 n98 n99 n100)))), (by omega), (by omega), trivial⟩
set_option maxRecDepth 100000 in
set_option maxHeartbeats 8000000 in
theorem CL_71_1_49 {X : pm_X} {d : Nat} {wr : pm_W} {Q : pm_R → Prop} {f0 : Nat → Int32} {A0 : Nat → List Int32} {R : Nat → Value} (hX : XO X) (k_78_0 : ∀ (f' : Nat → Int32) (A' : Nat → List Int32) (y2 : Int32), CI f' A' R → (∀ k : Nat, k ≠ 1936 → k ≠ 1968 → k ≠ 2000 → f' k = f0 k) → (∀ k : Nat, k ≠ 122 → k ≠ 124 → k ≠ 126 → A' k = A0 k) → (0 ≤ y2.toInt ∧ y2.toInt ≤ 3) → pmE pg X pg_tyl pg_cl (d + 1) 71 78 [.ref 107, .ref 1, .int y2] [] (cd f' A' R wr) Q) : ∀ (m : Nat) (f : Nat → Int32) (A : Nat → List Int32) (x2 : Int32), CI f A R → (∀ k : Nat, k ≠ 1936 → k ≠ 1968 → k ≠ 2000 → f k = f0 k) → (∀ k : Nat, k ≠ 122 → k ≠ 124 → k ≠ 126 → A k = A0 k) → (0 ≤ x2.toInt ∧ x2.toInt ≤ 3) → 3 - x2.toInt < (m : Int) → pmE pg X pg_tyl pg_cl (d + 1) 71 49 [.ref 107, .ref 1, .int x2] [] (cd f A R wr) Q := by
  intro m
  induction m with
  | zero =>
    intro f A x2 hI hG hF gx2 hm
    exfalso
    have l0 := zi_lo x2
    have u0 := zi_hi x2
    omega
  | succ m ih =>
    intro f A x2 hI hG hF gx2 hm
    refine pe_iload_n (j := 2) (by decide +kernel) rfl ?_
    refine pe_aload_n (j := 0) (by decide +kernel) rfl ?_
    refine pe_get (j := 36) (ci := 8) (n := 3) (by decide +kernel) (by decide +kernel) cd_o107 rfl ?_
    have hr_f_1715 := cf_1715 hI
    refine pz_icmp_ge (off := 24) (t := 78) (by decide +kernel) (by decide) rfl rfl rfl (fun h1 => ?_) (fun h1 => ?_)
    · skip
      exact k_78_0 f A x2 hI (fun k n1936 n1968 n2000 => (hG k n1936 n1968 n2000)) (fun k n122 n124 n126 => (hF k n122 n124 n126)) (by omega)
    · skip
      refine pe_aload_n (j := 0) (by decide +kernel) rfl ?_
      refine pe_get (j := 19) (ci := 8) (n := 1) (by decide +kernel) (by decide +kernel) cd_o107 rfl ?_
      refine pe_iload_n (j := 2) (by decide +kernel) rfl ?_
      by_cases h2 : x2.toInt = 0
      · skip
        refine pz_aald (q := 121) (t := 4) (n := 3) (i := 0) (C := "RingVillage$Row") (by decide +kernel) cd_q109 rfl rfl rfl (by omega) (by decide +kernel) rfl ?_
        refine pe_aload_n (j := 1) (by decide +kernel) rfl ?_
        refine pe_get (j := 19) (ci := 8) (n := 1) (by decide +kernel) (by decide +kernel) cd_o1 rfl ?_
        refine pe_iload_n (j := 2) (by decide +kernel) rfl ?_
        refine pz_aald (q := 15) (t := 4) (n := 3) (i := 0) (C := "RingVillage$Row") (by decide +kernel) cd_q3 rfl rfl rfl (by omega) (by decide +kernel) rfl ?_
        refine pi_V (j := 43) (mj := 57) (by decide +kernel) (cll_V (args := [.ref 15]) (n := 1) (by decide +kernel) rfl rfl cd_o121 (by decide +kernel) (Nat.le_of_ble_eq_true rfl) (Nat.le_of_ble_eq_true rfl)) ?_
        show pmE pg X pg_tyl pg_cl (d) 57 0 [.ref 121, .ref 15] [] (cd f A R wr) _
        refine pe_aload_n (j := 0) (by decide +kernel) rfl ?_
        refine pe_aload_n (j := 1) (by decide +kernel) rfl ?_
        refine pe_get (j := 15) (ci := 5) (n := 0) (by decide +kernel) (by decide +kernel) cd_o15 rfl ?_
        have hr_f_240 := cf_240 hI
        refine cz_put1936 (jj := 15) (by decide +kernel) (by decide +kernel) hI (by omega) (by omega) (fun f3 ef3 hIf3 => ?_)
        refine pe_aload_n (j := 1) (by decide +kernel) rfl ?_
        refine pe_get (j := 9) (ci := 5) (n := 1) (by decide +kernel) (by decide +kernel) cd_o15 rfl ?_
        refine pe_iconstv (n := 0) (v := 0) (by decide +kernel) (by decide +kernel) ?_
        refine pe_aload_n (j := 0) (by decide +kernel) rfl ?_
        refine pe_get (j := 9) (ci := 5) (n := 1) (by decide +kernel) (by decide +kernel) cd_o121 rfl ?_
        refine pe_iconstv (n := 0) (v := 0) (by decide +kernel) (by decide +kernel) ?_
        refine pe_sipushv (n := 270) (v := 270) (by decide +kernel) (by decide +kernel) ?_
        have hl4 := kz_270
        have hl5 := kz_0
        have hl6 := kz_0
        refine cz_copy (j := 19) (a := 0) (b := 0) (c := 270) (by decide +kernel) (by decide +kernel) (Nat.le_of_ble_eq_true rfl) cd_a16 cd_a122 (by decide +kernel) (fun _ => cd_s122) hIf3 (cl_16 hIf3) (cl_122 hIf3) kz_0 kz_0 kz_270 (by omega) (by omega) (by omega) (by omega) (by omega) (Or.inl rfl) (ct_no (by decide +kernel)) (fun A7 eA7 hIA7 => ?_)
        refine pe_vret (by decide +kernel) rfl ⟨rfl, rfl, ?_⟩
        show pmE pg X pg_tyl pg_cl (d + 1) 71 72 [.ref 107, .ref 1, .int x2] [] (cd f3 A7 R wr) _
        refine pz_iinc (j := 2) (n := 1) (by decide +kernel) rfl rfl (by decide +kernel) (by omega) (by omega) (fun z8 hz8 => ?_)
        show pmE pg X pg_tyl pg_cl (d + 1) 71 75 [.ref 107, .ref 1, .int z8] [] (cd f3 A7 R wr) _
        refine pe_goto (off := (-26)) (t := 49) (by decide +kernel) (by decide) rfl ?_
        exact ih f3 A7 z8 hIA7 (fun k n1936 n1968 n2000 => (upf_fr ef3 n1936).trans ((hG k n1936 n1968 n2000))) (fun k n122 n124 n126 => (upa_fr eA7 n122).trans ((hF k n122 n124 n126))) (by omega) (by omega)
      · skip
        by_cases h9 : x2.toInt = 1
        · skip
          refine pz_aald (q := 123) (t := 4) (n := 3) (i := 1) (C := "RingVillage$Row") (by decide +kernel) cd_q109 rfl rfl rfl (by omega) (by decide +kernel) rfl ?_
          refine pe_aload_n (j := 1) (by decide +kernel) rfl ?_
          refine pe_get (j := 19) (ci := 8) (n := 1) (by decide +kernel) (by decide +kernel) cd_o1 rfl ?_
          refine pe_iload_n (j := 2) (by decide +kernel) rfl ?_
          refine pz_aald (q := 17) (t := 4) (n := 3) (i := 1) (C := "RingVillage$Row") (by decide +kernel) cd_q3 rfl rfl rfl (by omega) (by decide +kernel) rfl ?_
          refine pi_V (j := 43) (mj := 57) (by decide +kernel) (cll_V (args := [.ref 17]) (n := 1) (by decide +kernel) rfl rfl cd_o123 (by decide +kernel) (Nat.le_of_ble_eq_true rfl) (Nat.le_of_ble_eq_true rfl)) ?_
          show pmE pg X pg_tyl pg_cl (d) 57 0 [.ref 123, .ref 17] [] (cd f A R wr) _
          refine pe_aload_n (j := 0) (by decide +kernel) rfl ?_
          refine pe_aload_n (j := 1) (by decide +kernel) rfl ?_
          refine pe_get (j := 15) (ci := 5) (n := 0) (by decide +kernel) (by decide +kernel) cd_o17 rfl ?_
          have hr_f_272 := cf_272 hI
          refine cz_put1968 (jj := 15) (by decide +kernel) (by decide +kernel) hI (by omega) (by omega) (fun f10 ef10 hIf10 => ?_)
          refine pe_aload_n (j := 1) (by decide +kernel) rfl ?_
          refine pe_get (j := 9) (ci := 5) (n := 1) (by decide +kernel) (by decide +kernel) cd_o17 rfl ?_
          refine pe_iconstv (n := 0) (v := 0) (by decide +kernel) (by decide +kernel) ?_
          refine pe_aload_n (j := 0) (by decide +kernel) rfl ?_
          refine pe_get (j := 9) (ci := 5) (n := 1) (by decide +kernel) (by decide +kernel) cd_o123 rfl ?_
          refine pe_iconstv (n := 0) (v := 0) (by decide +kernel) (by decide +kernel) ?_
          refine pe_sipushv (n := 270) (v := 270) (by decide +kernel) (by decide +kernel) ?_
          have hl11 := kz_270
          have hl12 := kz_0
          have hl13 := kz_0
          refine cz_copy (j := 19) (a := 0) (b := 0) (c := 270) (by decide +kernel) (by decide +kernel) (Nat.le_of_ble_eq_true rfl) cd_a18 cd_a124 (by decide +kernel) (fun _ => cd_s124) hIf10 (cl_18 hIf10) (cl_124 hIf10) kz_0 kz_0 kz_270 (by omega) (by omega) (by omega) (by omega) (by omega) (Or.inl rfl) (ct_no (by decide +kernel)) (fun A14 eA14 hIA14 => ?_)
          refine pe_vret (by decide +kernel) rfl ⟨rfl, rfl, ?_⟩
          show pmE pg X pg_tyl pg_cl (d + 1) 71 72 [.ref 107, .ref 1, .int x2] [] (cd f10 A14 R wr) _
          refine pz_iinc (j := 2) (n := 1) (by decide +kernel) rfl rfl (by decide +kernel) (by omega) (by omega) (fun z15 hz15 => ?_)
          show pmE pg X pg_tyl pg_cl (d + 1) 71 75 [.ref 107, .ref 1, .int z15] [] (cd f10 A14 R wr) _
          refine pe_goto (off := (-26)) (t := 49) (by decide +kernel) (by decide) rfl ?_
          exact ih f10 A14 z15 hIA14 (fun k n1936 n1968 n2000 => (upf_fr ef10 n1968).trans ((hG k n1936 n1968 n2000))) (fun k n122 n124 n126 => (upa_fr eA14 n124).trans ((hF k n122 n124 n126))) (by omega) (by omega)
        · skip
          refine pz_aald (q := 125) (t := 4) (n := 3) (i := 2) (C := "RingVillage$Row") (by decide +kernel) cd_q109 rfl rfl rfl (by omega) (by decide +kernel) rfl ?_
          refine pe_aload_n (j := 1) (by decide +kernel) rfl ?_
          refine pe_get (j := 19) (ci := 8) (n := 1) (by decide +kernel) (by decide +kernel) cd_o1 rfl ?_
          refine pe_iload_n (j := 2) (by decide +kernel) rfl ?_
          refine pz_aald (q := 19) (t := 4) (n := 3) (i := 2) (C := "RingVillage$Row") (by decide +kernel) cd_q3 rfl rfl rfl (by omega) (by decide +kernel) rfl ?_
          refine pi_V (j := 43) (mj := 57) (by decide +kernel) (cll_V (args := [.ref 19]) (n := 1) (by decide +kernel) rfl rfl cd_o125 (by decide +kernel) (Nat.le_of_ble_eq_true rfl) (Nat.le_of_ble_eq_true rfl)) ?_
          show pmE pg X pg_tyl pg_cl (d) 57 0 [.ref 125, .ref 19] [] (cd f A R wr) _
          refine pe_aload_n (j := 0) (by decide +kernel) rfl ?_
          refine pe_aload_n (j := 1) (by decide +kernel) rfl ?_
          refine pe_get (j := 15) (ci := 5) (n := 0) (by decide +kernel) (by decide +kernel) cd_o19 rfl ?_
          have hr_f_304 := cf_304 hI
          refine cz_put2000 (jj := 15) (by decide +kernel) (by decide +kernel) hI (by omega) (by omega) (fun f16 ef16 hIf16 => ?_)
          refine pe_aload_n (j := 1) (by decide +kernel) rfl ?_
          refine pe_get (j := 9) (ci := 5) (n := 1) (by decide +kernel) (by decide +kernel) cd_o19 rfl ?_
          refine pe_iconstv (n := 0) (v := 0) (by decide +kernel) (by decide +kernel) ?_
          refine pe_aload_n (j := 0) (by decide +kernel) rfl ?_
          refine pe_get (j := 9) (ci := 5) (n := 1) (by decide +kernel) (by decide +kernel) cd_o125 rfl ?_
          refine pe_iconstv (n := 0) (v := 0) (by decide +kernel) (by decide +kernel) ?_
          refine pe_sipushv (n := 270) (v := 270) (by decide +kernel) (by decide +kernel) ?_
          have hl17 := kz_270
          have hl18 := kz_0
          have hl19 := kz_0
          refine cz_copy (j := 19) (a := 0) (b := 0) (c := 270) (by decide +kernel) (by decide +kernel) (Nat.le_of_ble_eq_true rfl) cd_a20 cd_a126 (by decide +kernel) (fun _ => cd_s126) hIf16 (cl_20 hIf16) (cl_126 hIf16) kz_0 kz_0 kz_270 (by omega) (by omega) (by omega) (by omega) (by omega) (Or.inl rfl) (ct_no (by decide +kernel)) (fun A20 eA20 hIA20 => ?_)
          refine pe_vret (by decide +kernel) rfl ⟨rfl, rfl, ?_⟩
          show pmE pg X pg_tyl pg_cl (d + 1) 71 72 [.ref 107, .ref 1, .int x2] [] (cd f16 A20 R wr) _
          refine pz_iinc (j := 2) (n := 1) (by decide +kernel) rfl rfl (by decide +kernel) (by omega) (by omega) (fun z21 hz21 => ?_)
          show pmE pg X pg_tyl pg_cl (d + 1) 71 75 [.ref 107, .ref 1, .int z21] [] (cd f16 A20 R wr) _
          refine pe_goto (off := (-26)) (t := 49) (by decide +kernel) (by decide) rfl ?_
          exact ih f16 A20 z21 hIA20 (fun k n1936 n1968 n2000 => (upf_fr ef16 n2000).trans ((hG k n1936 n1968 n2000))) (fun k n122 n124 n126 => (upa_fr eA20 n126).trans ((hF k n122 n124 n126))) (by omega) (by omega)
set_option maxRecDepth 100000 in
set_option maxHeartbeats 8000000 in
theorem CL_71_1_18 {X : pm_X} {d : Nat} {wr : pm_W} {Q : pm_R → Prop} {f0 : Nat → Int32} {A0 : Nat → List Int32} {R : Nat → Value} (hX : XO X) (k_47_0 : ∀ (f' : Nat → Int32) (A' : Nat → List Int32) (y2 : Int32), CI f' A' R → (∀ k : Nat, k ≠ 1776 → k ≠ 1777 → k ≠ 1778 → k ≠ 1856 → k ≠ 1857 → k ≠ 1858 → f' k = f0 k) → (∀ k : Nat, k ≠ 112 → k ≠ 113 → k ≠ 114 → k ≠ 115 → k ≠ 117 → k ≠ 118 → k ≠ 119 → k ≠ 120 → A' k = A0 k) → (0 ≤ y2.toInt ∧ y2.toInt ≤ 2) → pmE pg X pg_tyl pg_cl (d + 1) 71 47 [.ref 107, .ref 1, .int y2] [] (cd f' A' R wr) Q) : ∀ (m : Nat) (f : Nat → Int32) (A : Nat → List Int32) (x2 : Int32), CI f A R → (∀ k : Nat, k ≠ 1776 → k ≠ 1777 → k ≠ 1778 → k ≠ 1856 → k ≠ 1857 → k ≠ 1858 → f k = f0 k) → (∀ k : Nat, k ≠ 112 → k ≠ 113 → k ≠ 114 → k ≠ 115 → k ≠ 117 → k ≠ 118 → k ≠ 119 → k ≠ 120 → A k = A0 k) → (0 ≤ x2.toInt ∧ x2.toInt ≤ 2) → 2 - x2.toInt < (m : Int) → pmE pg X pg_tyl pg_cl (d + 1) 71 18 [.ref 107, .ref 1, .int x2] [] (cd f A R wr) Q := by
  intro m
  induction m with
  | zero =>
    intro f A x2 hI hG hF gx2 hm
    exfalso
    have l0 := zi_lo x2
    have u0 := zi_hi x2
    omega
  | succ m ih =>
    intro f A x2 hI hG hF gx2 hm
    refine pe_iload_n (j := 2) (by decide +kernel) rfl ?_
    refine pe_aload_n (j := 0) (by decide +kernel) rfl ?_
    refine pe_get (j := 33) (ci := 8) (n := 2) (by decide +kernel) (by decide +kernel) cd_o107 rfl ?_
    have hr_f_1714 := cf_1714 hI
    refine pz_icmp_ge (off := 24) (t := 47) (by decide +kernel) (by decide) rfl rfl rfl (fun h1 => ?_) (fun h1 => ?_)
    · skip
      exact k_47_0 f A x2 hI (fun k n1776 n1777 n1778 n1856 n1857 n1858 => (hG k n1776 n1777 n1778 n1856 n1857 n1858)) (fun k n112 n113 n114 n115 n117 n118 n119 n120 => (hF k n112 n113 n114 n115 n117 n118 n119 n120)) (by omega)
    · skip
      refine pe_aload_n (j := 0) (by decide +kernel) rfl ?_
      refine pe_get (j := 11) (ci := 8) (n := 0) (by decide +kernel) (by decide +kernel) cd_o107 rfl ?_
      refine pe_iload_n (j := 2) (by decide +kernel) rfl ?_
      by_cases h2 : x2.toInt = 0
      · skip
        refine pz_aald (q := 111) (t := 3) (n := 2) (i := 0) (C := "RingVillage$Village") (by decide +kernel) cd_q108 rfl rfl rfl (by omega) (by decide +kernel) rfl ?_
        refine pe_aload_n (j := 1) (by decide +kernel) rfl ?_
        refine pe_get (j := 11) (ci := 8) (n := 0) (by decide +kernel) (by decide +kernel) cd_o1 rfl ?_
        refine pe_iload_n (j := 2) (by decide +kernel) rfl ?_
        refine pz_aald (q := 5) (t := 3) (n := 2) (i := 0) (C := "RingVillage$Village") (by decide +kernel) cd_q2 rfl rfl rfl (by omega) (by decide +kernel) rfl ?_
        refine pi_V (j := 39) (mj := 56) (by decide +kernel) (cll_V (args := [.ref 5]) (n := 1) (by decide +kernel) rfl rfl cd_o111 (by decide +kernel) (Nat.le_of_ble_eq_true rfl) (Nat.le_of_ble_eq_true rfl)) ?_
        show pmE pg X pg_tyl pg_cl (d) 56 0 [.ref 111, .ref 5] [] (cd f A R wr) _
        refine pe_aload_n (j := 0) (by decide +kernel) rfl ?_
        refine pe_aload_n (j := 1) (by decide +kernel) rfl ?_
        refine pe_get (j := 9) (ci := 9) (n := 0) (by decide +kernel) (by decide +kernel) cd_o5 rfl ?_
        have hr_f_80 := cf_80 hI
        refine cz_put1776 (jj := 9) (by decide +kernel) (by decide +kernel) hI (by omega) (by omega) (fun f3 ef3 hIf3 => ?_)
        refine pe_aload_n (j := 0) (by decide +kernel) rfl ?_
        refine pe_aload_n (j := 1) (by decide +kernel) rfl ?_
        refine pe_get (j := 28) (ci := 9) (n := 1) (by decide +kernel) (by decide +kernel) cd_o5 rfl ?_
        refine pe_top (v := (f 81)) (upf_fr ef3 (by decide)) ?_
        refine cz_put1777 (jj := 28) (by decide +kernel) (by decide +kernel) hIf3 (fun f4 ef4 hIf4 => ?_)
        refine pe_aload_n (j := 0) (by decide +kernel) rfl ?_
        refine pe_aload_n (j := 1) (by decide +kernel) rfl ?_
        refine pe_get (j := 31) (ci := 9) (n := 2) (by decide +kernel) (by decide +kernel) cd_o5 rfl ?_
        have hr_f_82 := cf_82 hI
        refine pe_top (v := (f 82)) ((upf_fr ef4 (by decide)).trans (upf_fr ef3 (by decide))) ?_
        refine cz_put1778 (jj := 31) (by decide +kernel) (by decide +kernel) hIf4 (by omega) (by omega) (fun f5 ef5 hIf5 => ?_)
        refine pe_aload_n (j := 1) (by decide +kernel) rfl ?_
        refine pe_get (j := 15) (ci := 9) (n := 3) (by decide +kernel) (by decide +kernel) cd_o5 rfl ?_
        refine pe_iconstv (n := 0) (v := 0) (by decide +kernel) (by decide +kernel) ?_
        refine pe_aload_n (j := 0) (by decide +kernel) rfl ?_
        refine pe_get (j := 15) (ci := 9) (n := 3) (by decide +kernel) (by decide +kernel) cd_o111 rfl ?_
        refine pe_iconstv (n := 0) (v := 0) (by decide +kernel) (by decide +kernel) ?_
        refine pe_bipushv (n := 81) (v := 81) (by decide +kernel) (by decide +kernel) ?_
        have hl6 := kz_81
        have hl7 := kz_0
        have hl8 := kz_0
        refine cz_copy (j := 40) (a := 0) (b := 0) (c := 81) (by decide +kernel) (by decide +kernel) (Nat.le_of_ble_eq_true rfl) cd_a6 cd_a112 (by decide +kernel) (fun _ => cd_s112) hIf5 (cl_6 hIf5) (cl_112 hIf5) kz_0 kz_0 kz_81 (by omega) (by omega) (by omega) (by omega) (by omega) (Or.inl rfl) (ct_no (by decide +kernel)) (fun A9 eA9 hIA9 => ?_)
        refine pe_aload_n (j := 1) (by decide +kernel) rfl ?_
        refine pe_get (j := 19) (ci := 9) (n := 4) (by decide +kernel) (by decide +kernel) cd_o5 rfl ?_
        refine pe_iconstv (n := 0) (v := 0) (by decide +kernel) (by decide +kernel) ?_
        refine pe_aload_n (j := 0) (by decide +kernel) rfl ?_
        refine pe_get (j := 19) (ci := 9) (n := 4) (by decide +kernel) (by decide +kernel) cd_o111 rfl ?_
        refine pe_iconstv (n := 0) (v := 0) (by decide +kernel) (by decide +kernel) ?_
        refine pe_bipushv (n := 9) (v := 9) (by decide +kernel) (by decide +kernel) ?_
        have hl10 := kz_9
        have hl11 := kz_0
        have hl12 := kz_0
        refine cz_copy (j := 40) (a := 0) (b := 0) (c := 9) (by decide +kernel) (by decide +kernel) (Nat.le_of_ble_eq_true rfl) cd_a7 cd_a113 (by decide +kernel) (fun _ => cd_s113) hIA9 (cl_7 hIA9) (cl_113 hIA9) kz_0 kz_0 kz_9 (by omega) (by omega) (by omega) (by omega) (by omega) (Or.inl rfl) (ct_no (by decide +kernel)) (fun A13 eA13 hIA13 => ?_)
        refine pe_aload_n (j := 1) (by decide +kernel) rfl ?_
        refine pe_get (j := 22) (ci := 9) (n := 5) (by decide +kernel) (by decide +kernel) cd_o5 rfl ?_
        refine pe_iconstv (n := 0) (v := 0) (by decide +kernel) (by decide +kernel) ?_
        refine pe_aload_n (j := 0) (by decide +kernel) rfl ?_
        refine pe_get (j := 22) (ci := 9) (n := 5) (by decide +kernel) (by decide +kernel) cd_o111 rfl ?_
        refine pe_iconstv (n := 0) (v := 0) (by decide +kernel) (by decide +kernel) ?_
        refine pe_bipushv (n := 9) (v := 9) (by decide +kernel) (by decide +kernel) ?_
        have hl14 := kz_9
        have hl15 := kz_0
        have hl16 := kz_0
        refine cz_copy (j := 40) (a := 0) (b := 0) (c := 9) (by decide +kernel) (by decide +kernel) (Nat.le_of_ble_eq_true rfl) cd_a8 cd_a114 (by decide +kernel) (fun _ => cd_s114) hIA13 (cl_8 hIA13) (cl_114 hIA13) kz_0 kz_0 kz_9 (by omega) (by omega) (by omega) (by omega) (by omega) (Or.inl rfl) (ct_no (by decide +kernel)) (fun A17 eA17 hIA17 => ?_)
        refine pe_aload_n (j := 1) (by decide +kernel) rfl ?_
        refine pe_get (j := 25) (ci := 9) (n := 6) (by decide +kernel) (by decide +kernel) cd_o5 rfl ?_
        refine pe_iconstv (n := 0) (v := 0) (by decide +kernel) (by decide +kernel) ?_
        refine pe_aload_n (j := 0) (by decide +kernel) rfl ?_
        refine pe_get (j := 25) (ci := 9) (n := 6) (by decide +kernel) (by decide +kernel) cd_o111 rfl ?_
        refine pe_iconstv (n := 0) (v := 0) (by decide +kernel) (by decide +kernel) ?_
        refine pe_bipushv (n := 28) (v := 28) (by decide +kernel) (by decide +kernel) ?_
        have hl18 := kz_28
        have hl19 := kz_0
        have hl20 := kz_0
        refine cz_copy (j := 40) (a := 0) (b := 0) (c := 28) (by decide +kernel) (by decide +kernel) (Nat.le_of_ble_eq_true rfl) cd_a9 cd_a115 (by decide +kernel) (fun _ => cd_s115) hIA17 (cl_9 hIA17) (cl_115 hIA17) kz_0 kz_0 kz_28 (by omega) (by omega) (by omega) (by omega) (by omega) (Or.inl rfl) (ct_one (kd := 0) (P := fun kd => ∀ i, i < (28 : Int).toNat → CT kd ((0 : Int).toNat + i) ((A17 9).getD ((0 : Int).toNat + i) 0).toInt) (by decide +kernel) (fun i _ => ct_9 hIA17 rfl)) (fun A21 eA21 hIA21 => ?_)
        refine pe_vret (by decide +kernel) rfl ⟨rfl, rfl, ?_⟩
        show pmE pg X pg_tyl pg_cl (d + 1) 71 41 [.ref 107, .ref 1, .int x2] [] (cd f5 A21 R wr) _
        refine pz_iinc (j := 2) (n := 1) (by decide +kernel) rfl rfl (by decide +kernel) (by omega) (by omega) (fun z22 hz22 => ?_)
        show pmE pg X pg_tyl pg_cl (d + 1) 71 44 [.ref 107, .ref 1, .int z22] [] (cd f5 A21 R wr) _
        refine pe_goto (off := (-26)) (t := 18) (by decide +kernel) (by decide) rfl ?_
        exact ih f5 A21 z22 hIA21 (fun k n1776 n1777 n1778 n1856 n1857 n1858 => (upf_fr ef5 n1778).trans ((upf_fr ef4 n1777).trans ((upf_fr ef3 n1776).trans ((hG k n1776 n1777 n1778 n1856 n1857 n1858))))) (fun k n112 n113 n114 n115 n117 n118 n119 n120 => (upa_fr eA21 n115).trans ((upa_fr eA17 n114).trans ((upa_fr eA13 n113).trans ((upa_fr eA9 n112).trans ((hF k n112 n113 n114 n115 n117 n118 n119 n120)))))) (by omega) (by omega)
      · skip
        refine pz_aald (q := 116) (t := 3) (n := 2) (i := 1) (C := "RingVillage$Village") (by decide +kernel) cd_q108 rfl rfl rfl (by omega) (by decide +kernel) rfl ?_
        refine pe_aload_n (j := 1) (by decide +kernel) rfl ?_
        refine pe_get (j := 11) (ci := 8) (n := 0) (by decide +kernel) (by decide +kernel) cd_o1 rfl ?_
        refine pe_iload_n (j := 2) (by decide +kernel) rfl ?_
        refine pz_aald (q := 10) (t := 3) (n := 2) (i := 1) (C := "RingVillage$Village") (by decide +kernel) cd_q2 rfl rfl rfl (by omega) (by decide +kernel) rfl ?_
        refine pi_V (j := 39) (mj := 56) (by decide +kernel) (cll_V (args := [.ref 10]) (n := 1) (by decide +kernel) rfl rfl cd_o116 (by decide +kernel) (Nat.le_of_ble_eq_true rfl) (Nat.le_of_ble_eq_true rfl)) ?_
        show pmE pg X pg_tyl pg_cl (d) 56 0 [.ref 116, .ref 10] [] (cd f A R wr) _
        refine pe_aload_n (j := 0) (by decide +kernel) rfl ?_
        refine pe_aload_n (j := 1) (by decide +kernel) rfl ?_
        refine pe_get (j := 9) (ci := 9) (n := 0) (by decide +kernel) (by decide +kernel) cd_o10 rfl ?_
        have hr_f_160 := cf_160 hI
        refine cz_put1856 (jj := 9) (by decide +kernel) (by decide +kernel) hI (by omega) (by omega) (fun f23 ef23 hIf23 => ?_)
        refine pe_aload_n (j := 0) (by decide +kernel) rfl ?_
        refine pe_aload_n (j := 1) (by decide +kernel) rfl ?_
        refine pe_get (j := 28) (ci := 9) (n := 1) (by decide +kernel) (by decide +kernel) cd_o10 rfl ?_
        refine pe_top (v := (f 161)) (upf_fr ef23 (by decide)) ?_
        refine cz_put1857 (jj := 28) (by decide +kernel) (by decide +kernel) hIf23 (fun f24 ef24 hIf24 => ?_)
        refine pe_aload_n (j := 0) (by decide +kernel) rfl ?_
        refine pe_aload_n (j := 1) (by decide +kernel) rfl ?_
        refine pe_get (j := 31) (ci := 9) (n := 2) (by decide +kernel) (by decide +kernel) cd_o10 rfl ?_
        have hr_f_162 := cf_162 hI
        refine pe_top (v := (f 162)) ((upf_fr ef24 (by decide)).trans (upf_fr ef23 (by decide))) ?_
        refine cz_put1858 (jj := 31) (by decide +kernel) (by decide +kernel) hIf24 (by omega) (by omega) (fun f25 ef25 hIf25 => ?_)
        refine pe_aload_n (j := 1) (by decide +kernel) rfl ?_
        refine pe_get (j := 15) (ci := 9) (n := 3) (by decide +kernel) (by decide +kernel) cd_o10 rfl ?_
        refine pe_iconstv (n := 0) (v := 0) (by decide +kernel) (by decide +kernel) ?_
        refine pe_aload_n (j := 0) (by decide +kernel) rfl ?_
        refine pe_get (j := 15) (ci := 9) (n := 3) (by decide +kernel) (by decide +kernel) cd_o116 rfl ?_
        refine pe_iconstv (n := 0) (v := 0) (by decide +kernel) (by decide +kernel) ?_
        refine pe_bipushv (n := 81) (v := 81) (by decide +kernel) (by decide +kernel) ?_
        have hl26 := kz_81
        have hl27 := kz_0
        have hl28 := kz_0
        refine cz_copy (j := 40) (a := 0) (b := 0) (c := 81) (by decide +kernel) (by decide +kernel) (Nat.le_of_ble_eq_true rfl) cd_a11 cd_a117 (by decide +kernel) (fun _ => cd_s117) hIf25 (cl_11 hIf25) (cl_117 hIf25) kz_0 kz_0 kz_81 (by omega) (by omega) (by omega) (by omega) (by omega) (Or.inl rfl) (ct_no (by decide +kernel)) (fun A29 eA29 hIA29 => ?_)
        refine pe_aload_n (j := 1) (by decide +kernel) rfl ?_
        refine pe_get (j := 19) (ci := 9) (n := 4) (by decide +kernel) (by decide +kernel) cd_o10 rfl ?_
        refine pe_iconstv (n := 0) (v := 0) (by decide +kernel) (by decide +kernel) ?_
        refine pe_aload_n (j := 0) (by decide +kernel) rfl ?_
        refine pe_get (j := 19) (ci := 9) (n := 4) (by decide +kernel) (by decide +kernel) cd_o116 rfl ?_
        refine pe_iconstv (n := 0) (v := 0) (by decide +kernel) (by decide +kernel) ?_
        refine pe_bipushv (n := 9) (v := 9) (by decide +kernel) (by decide +kernel) ?_
        have hl30 := kz_9
        have hl31 := kz_0
        have hl32 := kz_0
        refine cz_copy (j := 40) (a := 0) (b := 0) (c := 9) (by decide +kernel) (by decide +kernel) (Nat.le_of_ble_eq_true rfl) cd_a12 cd_a118 (by decide +kernel) (fun _ => cd_s118) hIA29 (cl_12 hIA29) (cl_118 hIA29) kz_0 kz_0 kz_9 (by omega) (by omega) (by omega) (by omega) (by omega) (Or.inl rfl) (ct_no (by decide +kernel)) (fun A33 eA33 hIA33 => ?_)
        refine pe_aload_n (j := 1) (by decide +kernel) rfl ?_
        refine pe_get (j := 22) (ci := 9) (n := 5) (by decide +kernel) (by decide +kernel) cd_o10 rfl ?_
        refine pe_iconstv (n := 0) (v := 0) (by decide +kernel) (by decide +kernel) ?_
        refine pe_aload_n (j := 0) (by decide +kernel) rfl ?_
        refine pe_get (j := 22) (ci := 9) (n := 5) (by decide +kernel) (by decide +kernel) cd_o116 rfl ?_
        refine pe_iconstv (n := 0) (v := 0) (by decide +kernel) (by decide +kernel) ?_
        refine pe_bipushv (n := 9) (v := 9) (by decide +kernel) (by decide +kernel) ?_
        have hl34 := kz_9
        have hl35 := kz_0
        have hl36 := kz_0
        refine cz_copy (j := 40) (a := 0) (b := 0) (c := 9) (by decide +kernel) (by decide +kernel) (Nat.le_of_ble_eq_true rfl) cd_a13 cd_a119 (by decide +kernel) (fun _ => cd_s119) hIA33 (cl_13 hIA33) (cl_119 hIA33) kz_0 kz_0 kz_9 (by omega) (by omega) (by omega) (by omega) (by omega) (Or.inl rfl) (ct_no (by decide +kernel)) (fun A37 eA37 hIA37 => ?_)
        refine pe_aload_n (j := 1) (by decide +kernel) rfl ?_
        refine pe_get (j := 25) (ci := 9) (n := 6) (by decide +kernel) (by decide +kernel) cd_o10 rfl ?_
        refine pe_iconstv (n := 0) (v := 0) (by decide +kernel) (by decide +kernel) ?_
        refine pe_aload_n (j := 0) (by decide +kernel) rfl ?_
        refine pe_get (j := 25) (ci := 9) (n := 6) (by decide +kernel) (by decide +kernel) cd_o116 rfl ?_
        refine pe_iconstv (n := 0) (v := 0) (by decide +kernel) (by decide +kernel) ?_
        refine pe_bipushv (n := 28) (v := 28) (by decide +kernel) (by decide +kernel) ?_
        have hl38 := kz_28
        have hl39 := kz_0
        have hl40 := kz_0
        refine cz_copy (j := 40) (a := 0) (b := 0) (c := 28) (by decide +kernel) (by decide +kernel) (Nat.le_of_ble_eq_true rfl) cd_a14 cd_a120 (by decide +kernel) (fun _ => cd_s120) hIA37 (cl_14 hIA37) (cl_120 hIA37) kz_0 kz_0 kz_28 (by omega) (by omega) (by omega) (by omega) (by omega) (Or.inl rfl) (ct_one (kd := 0) (P := fun kd => ∀ i, i < (28 : Int).toNat → CT kd ((0 : Int).toNat + i) ((A37 14).getD ((0 : Int).toNat + i) 0).toInt) (by decide +kernel) (fun i _ => ct_14 hIA37 rfl)) (fun A41 eA41 hIA41 => ?_)
        refine pe_vret (by decide +kernel) rfl ⟨rfl, rfl, ?_⟩
        show pmE pg X pg_tyl pg_cl (d + 1) 71 41 [.ref 107, .ref 1, .int x2] [] (cd f25 A41 R wr) _
        refine pz_iinc (j := 2) (n := 1) (by decide +kernel) rfl rfl (by decide +kernel) (by omega) (by omega) (fun z42 hz42 => ?_)
        show pmE pg X pg_tyl pg_cl (d + 1) 71 44 [.ref 107, .ref 1, .int z42] [] (cd f25 A41 R wr) _
        refine pe_goto (off := (-26)) (t := 18) (by decide +kernel) (by decide) rfl ?_
        exact ih f25 A41 z42 hIA41 (fun k n1776 n1777 n1778 n1856 n1857 n1858 => (upf_fr ef25 n1858).trans ((upf_fr ef24 n1857).trans ((upf_fr ef23 n1856).trans ((hG k n1776 n1777 n1778 n1856 n1857 n1858))))) (fun k n112 n113 n114 n115 n117 n118 n119 n120 => (upa_fr eA41 n120).trans ((upa_fr eA37 n119).trans ((upa_fr eA33 n118).trans ((upa_fr eA29 n117).trans ((hF k n112 n113 n114 n115 n117 n118 n119 n120)))))) (by omega) (by omega)
set_option maxRecDepth 100000 in
set_option maxHeartbeats 8000000 in
theorem CM_71_1 {X : pm_X} {d : Nat} {wr : pm_W} {f : Nat → Int32} {A : Nat → List Int32} {R : Nat → Value} (hX : XO X) (hI : CI f A R) : pmE pg X pg_tyl pg_cl (d + 1) 71 0 (pm_ent (pm_max pg 71) [.ref 107, .ref 1]) [] (cd f A R wr) (fun q => ∃ (f' : Nat → Int32) (A' : Nat → List Int32), q = (none, cd f' A' R wr, 0, 0) ∧ CI f' A' R ∧ (∀ k : Nat, k ≠ 1714 → k ≠ 1715 → k ≠ 1717 → k ≠ 1718 → k ≠ 1719 → k ≠ 1776 → k ≠ 1777 → k ≠ 1778 → k ≠ 1856 → k ≠ 1857 → k ≠ 1858 → k ≠ 1936 → k ≠ 1968 → k ≠ 2000 → f' k = f k) ∧ (∀ k : Nat, k ≠ 110 → k ≠ 112 → k ≠ 113 → k ≠ 114 → k ≠ 115 → k ≠ 117 → k ≠ 118 → k ≠ 119 → k ≠ 120 → k ≠ 122 → k ≠ 124 → k ≠ 126 → A' k = A k) ∧ ((f' 1717).toInt + (-1) * (f 21).toInt) ≤ 0 ∧ ((-1) * (f' 1717).toInt + (f 21).toInt) ≤ 0 ∧ ((True))) := by
  show pmE pg X pg_tyl pg_cl (d + 1) 71 0 [.ref 107, .ref 1, pm_dead] [] (cd f A R wr) _
  refine pe_aload_n (j := 0) (by decide +kernel) rfl ?_
  refine pe_aload_n (j := 1) (by decide +kernel) rfl ?_
  refine pe_get (j := 33) (ci := 8) (n := 2) (by decide +kernel) (by decide +kernel) cd_o1 rfl ?_
  have hr_f_18 := cf_18 hI
  refine cz_put1714 (jj := 33) (by decide +kernel) (by decide +kernel) hI (by omega) (by omega) (fun f1 ef1 hIf1 => ?_)
  refine pe_aload_n (j := 0) (by decide +kernel) rfl ?_
  refine pe_aload_n (j := 1) (by decide +kernel) rfl ?_
  refine pe_get (j := 36) (ci := 8) (n := 3) (by decide +kernel) (by decide +kernel) cd_o1 rfl ?_
  have hr_f_19 := cf_19 hI
  refine pe_top (v := (f 19)) (upf_fr ef1 (by decide)) ?_
  refine cz_put1715 (jj := 36) (by decide +kernel) (by decide +kernel) hIf1 (by omega) (by omega) (fun f2 ef2 hIf2 => ?_)
  refine pe_iconstv (n := 0) (v := 0) (by decide +kernel) (by decide +kernel) ?_
  refine pe_istore_n (j := 2) (ls' := [.ref 107, .ref 1, .int 0]) (by decide +kernel) (Nat.le_of_ble_eq_true rfl) rfl ?_
  refine CL_71_1_18 hX (fun f3 A4 y5 hIy6 hGf3 hFA4 gy5 => ?_) 3 f2 A 0 hIf2 (fun k _ _ _ _ _ _ => rfl) (fun k _ _ _ _ _ _ _ _ => rfl) (by decide +kernel) (by decide +kernel)
  refine pe_iconstv (n := 0) (v := 0) (by decide +kernel) (by decide +kernel) ?_
  refine pe_istore_n (j := 2) (ls' := [.ref 107, .ref 1, .int 0]) (by decide +kernel) (Nat.le_of_ble_eq_true rfl) rfl ?_
  refine CL_71_1_49 hX (fun f7 A8 y9 hIy10 hGf7 hFA8 gy9 => ?_) 4 f3 A4 0 hIy6 (fun k _ _ _ => rfl) (fun k _ _ _ => rfl) (by decide +kernel) (by decide +kernel)
  refine pe_aload_n (j := 0) (by decide +kernel) rfl ?_
  refine pe_aload_n (j := 1) (by decide +kernel) rfl ?_
  refine pe_get (j := 46) (ci := 8) (n := 5) (by decide +kernel) (by decide +kernel) cd_o1 rfl ?_
  have hr_f_21 := cf_21 hI
  refine pe_top (v := (f 21)) (((hGf7 21 (by decide) (by decide) (by decide))).trans (((hGf3 21 (by decide) (by decide) (by decide) (by decide) (by decide) (by decide))).trans ((upf_fr ef2 (by decide)).trans (upf_fr ef1 (by decide))))) ?_
  refine cz_put1717 (jj := 46) (by decide +kernel) (by decide +kernel) hIy10 (by omega) (by omega) (fun f11 ef11 hIf11 => ?_)
  refine pe_aload_n (j := 1) (by decide +kernel) rfl ?_
  refine pe_get (j := 23) (ci := 8) (n := 4) (by decide +kernel) (by decide +kernel) cd_o1 rfl ?_
  refine pe_iconstv (n := 0) (v := 0) (by decide +kernel) (by decide +kernel) ?_
  refine pe_aload_n (j := 0) (by decide +kernel) rfl ?_
  refine pe_get (j := 23) (ci := 8) (n := 4) (by decide +kernel) (by decide +kernel) cd_o107 rfl ?_
  refine pe_iconstv (n := 0) (v := 0) (by decide +kernel) (by decide +kernel) ?_
  refine pe_aload_n (j := 0) (by decide +kernel) rfl ?_
  refine pe_get (j := 46) (ci := 8) (n := 5) (by decide +kernel) (by decide +kernel) cd_o107 rfl ?_
  refine pe_top (v := (f 21)) (upf_at ef11) ?_
  have hl12 := kz_0
  have hl13 := kz_0
  refine cz_copy (j := 49) (a := 0) (b := 0) (c := (f 21).toInt) (by decide +kernel) (by decide +kernel) (Nat.le_of_ble_eq_true rfl) cd_a4 cd_a110 (by decide +kernel) (fun _ => cd_s110) hIf11 (cl_4 hIf11) (cl_110 hIf11) kz_0 kz_0 rfl (by omega) (by omega) (by omega) (by omega) (by omega) (Or.inr (fun i => fits_b (ct_4 hIf11 rfl))) (ct_one (kd := 7) (P := fun kd => ∀ i, i < ((f 21).toInt : Int).toNat → CT kd ((0 : Int).toNat + i) ((A8 4).getD ((0 : Int).toNat + i) 0).toInt) (by decide +kernel) (fun i _ => ct_4 hIf11 rfl)) (fun A14 eA14 hIA14 => ?_)
  refine pe_aload_n (j := 0) (by decide +kernel) rfl ?_
  refine pe_aload_n (j := 1) (by decide +kernel) rfl ?_
  refine pe_get (j := 55) (ci := 8) (n := 6) (by decide +kernel) (by decide +kernel) cd_o1 rfl ?_
  refine pe_top (v := (f 22)) ((upf_fr ef11 (by decide)).trans (((hGf7 22 (by decide) (by decide) (by decide))).trans (((hGf3 22 (by decide) (by decide) (by decide) (by decide) (by decide) (by decide))).trans ((upf_fr ef2 (by decide)).trans (upf_fr ef1 (by decide)))))) ?_
  refine cz_put1718 (jj := 55) (by decide +kernel) (by decide +kernel) hIA14 (fun f15 ef15 hIf15 => ?_)
  refine pe_aload_n (j := 0) (by decide +kernel) rfl ?_
  refine pe_aload_n (j := 1) (by decide +kernel) rfl ?_
  refine pe_get (j := 27) (ci := 8) (n := 7) (by decide +kernel) (by decide +kernel) cd_o1 rfl ?_
  refine pe_top (v := (f 23)) ((upf_fr ef15 (by decide)).trans ((upf_fr ef11 (by decide)).trans (((hGf7 23 (by decide) (by decide) (by decide))).trans (((hGf3 23 (by decide) (by decide) (by decide) (by decide) (by decide) (by decide))).trans ((upf_fr ef2 (by decide)).trans (upf_fr ef1 (by decide))))))) ?_
  refine cz_put1719 (jj := 27) (by decide +kernel) (by decide +kernel) hIf15 (fun f16 ef16 hIf16 => ?_)
  have hx17 : (f16 1717).toInt = (f 21).toInt := (congrArg Int32.toInt (show f16 1717 = (f 21) from (upf_fr ef16 (by decide)).trans ((upf_fr ef15 (by decide)).trans (upf_at ef11)))).trans rfl
  have hx18 : (f16 21).toInt = (f 21).toInt := (congrArg Int32.toInt (show f16 21 = (f 21) from (upf_fr ef16 (by decide)).trans ((upf_fr ef15 (by decide)).trans ((upf_fr ef11 (by decide)).trans (((hGf7 21 (by decide) (by decide) (by decide))).trans (((hGf3 21 (by decide) (by decide) (by decide) (by decide) (by decide) (by decide))).trans ((upf_fr ef2 (by decide)).trans (upf_fr ef1 (by decide))))))))).trans rfl
  have hx19 : (f16 1717).toInt = (f 21).toInt := (congrArg Int32.toInt (show f16 1717 = (f 21) from (upf_fr ef16 (by decide)).trans ((upf_fr ef15 (by decide)).trans (upf_at ef11)))).trans rfl
  have hx20 : (f16 21).toInt = (f 21).toInt := (congrArg Int32.toInt (show f16 21 = (f 21) from (upf_fr ef16 (by decide)).trans ((upf_fr ef15 (by decide)).trans ((upf_fr ef11 (by decide)).trans (((hGf7 21 (by decide) (by decide) (by decide))).trans (((hGf3 21 (by decide) (by decide) (by decide) (by decide) (by decide) (by decide))).trans ((upf_fr ef2 (by decide)).trans (upf_fr ef1 (by decide))))))))).trans rfl
  exact pe_vret (by decide +kernel) rfl ⟨f16, A14, rfl, hIf16, (fun k n1714 n1715 n1717 n1718 n1719 n1776 n1777 n1778 n1856 n1857 n1858 n1936 n1968 n2000 => (upf_fr ef16 n1719).trans ((upf_fr ef15 n1718).trans ((upf_fr ef11 n1717).trans (((hGf7 k n1936 n1968 n2000)).trans (((hGf3 k n1776 n1777 n1778 n1856 n1857 n1858)).trans ((upf_fr ef2 n1715).trans (upf_fr ef1 n1714))))))), (fun k n110 n112 n113 n114 n115 n117 n118 n119 n120 n122 n124 n126 => (upa_fr eA14 n110).trans (((hFA8 k n122 n124 n126)).trans ((hFA4 k n112 n113 n114 n115 n117 n118 n119 n120)))), (by omega), (by omega), trivial⟩
