section
set_option maxRecDepth 100000 in
set_option maxHeartbeats 8000000 in
theorem CM_173 {X : pm_X} {d : Nat} {wr : pm_W} {f : Nat → Int32} {A : Nat → List Int32} {R : Nat → Value} {x1 x2 x3 : Int32} (hX : XO X) (hI : CI f A R) : pmE pg X pg_tyl pg_cl (d + 6) 173 0 (pm_ent (pm_max pg 173) [.ref 0, .int x1, .int x2, .int x3]) [] (cd f A R wr) (fun q => ∃ (f' : Nat → Int32) (A' : Nat → List Int32) (R' : Nat → Value) (r : Int32), q = (some (.int r), cd f' A' R' wr, 0, 0) ∧ CI f' A' R' ∧ (∀ k : Nat, k ≠ 529 → k ≠ 530 → k ≠ 1095 → f' k = f k) ∧ (∀ k : Nat, k ≠ 39 → k ≠ 40 → k ≠ 41 → k ≠ 74 → k ≠ 77 → A' k = A k) ∧ (∀ k : Nat, k ≠ 0 → k ≠ 3 → R' k = R k) ∧ ((r = 0 ∧ True) ∨ (r = 1 ∧ (∃ v : Nat, VV v ∧ R' 0 = .ref v ∧ R' 3 = .ref v) ∧ (0 ≤ x3.toInt ∧ x3.toInt ≤ 30)))) := by
  show pmE pg X pg_tyl pg_cl (d + 6) 173 0 [.ref 0, .int x1, .int x2, .int x3] [] (cd f A R wr) _
  refine pe_aload_n (j := 0) (by decide +kernel) rfl ?_
  refine pe_iload_n (j := 1) (by decide +kernel) rfl ?_
  refine pe_iload_n (j := 2) (by decide +kernel) rfl ?_
  refine pe_iload_n (j := 3) (by decide +kernel) rfl ?_
  refine pz_callV (j := 201) (mj := 98) (by decide +kernel) (cll_V (args := [.int x3, .int x2, .int x1]) (n := 3) (by decide +kernel) rfl rfl cd_o0 (by decide +kernel) (Nat.le_of_ble_eq_true rfl) (Nat.le_of_ble_eq_true rfl)) (CM_98 hX hI) (fun q1a q1b q1c q1d hqq1 => ?_)
  obtain ⟨f2, A3, R4, rq1, eq1, hIq1, hGq1, hFq1, hHq1, kq1⟩ := hqq1
  cases eq1
  refine ⟨rfl, rfl, ?_⟩
  rcases kq1 with kq1 | kq1
  · skip
    obtain ⟨erq1, kq1⟩ := kq1
    subst erq1
    show pmE pg X pg_tyl pg_cl (d + 6) 173 7 [.ref 0, .int x1, .int x2, .int x3] [.int 0] (cd f2 A3 R4 wr) _
    refine pz_if_ne (off := 5) (t := 12) (by decide +kernel) (by decide) rfl kz_0 (fun h5 => by omega) (fun h5 => ?_)
    refine pe_iconstv (n := 0) (v := 0) (by decide +kernel) (by decide +kernel) ?_
    exact pe_iret (by decide +kernel) rfl rfl ⟨f2, A3, R4, 0, rfl, hIq1, (fun k n529 n530 n1095 => (hGq1 k n529 n530)), (fun k n39 n40 n41 n74 n77 => (hFq1 k n39 n40 n41)), (fun k n0 n3 => (hHq1 k n0)), Or.inl ⟨rfl, trivial⟩⟩
  · skip
    obtain ⟨erq1, kq1⟩ := kq1
    subst erq1
    obtain ⟨⟨v4, hv4, hR0q1⟩, kq1⟩ := kq1
    have bv4 := VV_b hv4
    show pmE pg X pg_tyl pg_cl (d + 6) 173 7 [.ref 0, .int x1, .int x2, .int x3] [.int 1] (cd f2 A3 R4 wr) _
    refine pz_if_ne (off := 5) (t := 12) (by decide +kernel) (by decide) rfl kz_1 (fun h6 => ?_) (fun h6 => by omega)
    refine pe_aload_n (j := 0) (by decide +kernel) rfl ?_
    refine pe_get (j := 55) (ci := 11) (n := 7) (by decide +kernel) (by decide +kernel) cd_o0 rfl ?_
    refine pe_aload_n (j := 0) (by decide +kernel) rfl ?_
    refine pe_get (j := 34) (ci := 11) (n := 4) (by decide +kernel) (by decide +kernel) cd_o0 rfl ?_
    refine pz_callV (j := 338) (mj := 159) (by decide +kernel) (cll_V (args := [.ref 33]) (n := 1) (by decide +kernel) rfl rfl cd_o68 (by decide +kernel) (Nat.le_of_ble_eq_true rfl) (Nat.le_of_ble_eq_true rfl)) (CM_159 hX hIq1 hv4 (hR0q1)) (fun q7a q7b q7c q7d hqq7 => ?_)
    obtain ⟨f8, A9, R10, eq7, hIq7, hGq7, hFq7, hHq7, hS3q7, kq7⟩ := hqq7
    cases eq7
    refine ⟨rfl, rfl, ?_⟩
    show pmE pg X pg_tyl pg_cl (d + 6) 173 23 [.ref 0, .int x1, .int x2, .int x3] [] (cd f8 A9 R10 wr) _
    refine pe_iconstv (n := 1) (v := 1) (by decide +kernel) (by decide +kernel) ?_
    exact pe_iret (by decide +kernel) rfl rfl ⟨f8, A9, R10, 1, rfl, hIq7, (fun k n529 n530 n1095 => ((hGq7 k n1095)).trans ((hGq1 k n529 n530))), (fun k n39 n40 n41 n74 n77 => ((hFq7 k n74 n77)).trans ((hFq1 k n39 n40 n41))), (fun k n0 n3 => ((hHq7 k n3)).trans ((hHq1 k n0))), Or.inr (⟨rfl, ⟨v4, hv4, ((hHq7 0 (by decide))).trans (hR0q1), hS3q7⟩, (by omega)⟩)⟩
set_option maxRecDepth 100000 in
set_option maxHeartbeats 8000000 in
theorem CM_168 {X : pm_X} {d : Nat} {wr : pm_W} {f : Nat → Int32} {A : Nat → List Int32} {R : Nat → Value} {x1 x2 x3 x4 : Int32} (hX : XO X) (hI : CI f A R) : pmE pg X pg_tyl pg_cl (d + 6) 168 0 (pm_ent (pm_max pg 168) [.ref 0, .int x1, .int x2, .int x3, .int x4]) [] (cd f A R wr) (fun q => ∃ (f' : Nat → Int32) (A' : Nat → List Int32) (R' : Nat → Value) (r : Int32), q = (some (.int r), cd f' A' R' wr, 0, 0) ∧ CI f' A' R' ∧ (∀ k : Nat, k ≠ 529 → k ≠ 530 → k ≠ 1095 → f' k = f k) ∧ (∀ k : Nat, k ≠ 39 → k ≠ 40 → k ≠ 41 → k ≠ 74 → k ≠ 77 → A' k = A k) ∧ (∀ k : Nat, k ≠ 0 → k ≠ 3 → R' k = R k) ∧ ((r = 0 ∧ True) ∨ (r = 1 ∧ (∃ v : Nat, VV v ∧ R' 0 = .ref v ∧ R' 3 = .ref v) ∧ (0 ≤ x3.toInt ∧ x3.toInt ≤ 30) ∧ (0 ≤ x4.toInt ∧ x4.toInt ≤ 127)))) := by
  show pmE pg X pg_tyl pg_cl (d + 6) 168 0 [.ref 0, .int x1, .int x2, .int x3, .int x4] [] (cd f A R wr) _
  refine pe_aload_n (j := 0) (by decide +kernel) rfl ?_
  refine pe_iload_n (j := 1) (by decide +kernel) rfl ?_
  refine pe_iload_n (j := 2) (by decide +kernel) rfl ?_
  refine pe_iload_n (j := 3) (by decide +kernel) rfl ?_
  refine pz_callV (j := 201) (mj := 98) (by decide +kernel) (cll_V (args := [.int x3, .int x2, .int x1]) (n := 3) (by decide +kernel) rfl rfl cd_o0 (by decide +kernel) (Nat.le_of_ble_eq_true rfl) (Nat.le_of_ble_eq_true rfl)) (CM_98 hX hI) (fun q1a q1b q1c q1d hqq1 => ?_)
  obtain ⟨f2, A3, R4, rq1, eq1, hIq1, hGq1, hFq1, hHq1, kq1⟩ := hqq1
  cases eq1
  refine ⟨rfl, rfl, ?_⟩
  rcases kq1 with kq1 | kq1
  · skip
    obtain ⟨erq1, kq1⟩ := kq1
    subst erq1
    show pmE pg X pg_tyl pg_cl (d + 6) 168 7 [.ref 0, .int x1, .int x2, .int x3, .int x4] [.int 0] (cd f2 A3 R4 wr) _
    refine pz_if_eq (off := 25) (t := 32) (by decide +kernel) (by decide) rfl kz_0 (fun h5 => ?_) (fun h5 => by omega)
    refine pe_iconstv (n := 0) (v := 0) (by decide +kernel) (by decide +kernel) ?_
    exact pe_iret (by decide +kernel) rfl rfl ⟨f2, A3, R4, 0, rfl, hIq1, (fun k n529 n530 n1095 => (hGq1 k n529 n530)), (fun k n39 n40 n41 n74 n77 => (hFq1 k n39 n40 n41)), (fun k n0 n3 => (hHq1 k n0)), Or.inl ⟨rfl, trivial⟩⟩
  · skip
    obtain ⟨erq1, kq1⟩ := kq1
    subst erq1
    obtain ⟨⟨v4, hv4, hR0q1⟩, kq1⟩ := kq1
    have bv4 := VV_b hv4
    show pmE pg X pg_tyl pg_cl (d + 6) 168 7 [.ref 0, .int x1, .int x2, .int x3, .int x4] [.int 1] (cd f2 A3 R4 wr) _
    refine pz_if_eq (off := 25) (t := 32) (by decide +kernel) (by decide) rfl kz_1 (fun h6 => by omega) (fun h6 => ?_)
    refine pe_iload (j := 4) (by decide +kernel) rfl ?_
    have lw8 := zi_lo x4
    have uw8 := zi_hi x4
    refine pz_if_lt (off := 20) (t := 32) (by decide +kernel) (by decide) rfl rfl (fun h7 => ?_) (fun h7 => ?_)
    · skip
      refine pe_iconstv (n := 0) (v := 0) (by decide +kernel) (by decide +kernel) ?_
      exact pe_iret (by decide +kernel) rfl rfl ⟨f2, A3, R4, 0, rfl, hIq1, (fun k n529 n530 n1095 => (hGq1 k n529 n530)), (fun k n39 n40 n41 n74 n77 => (hFq1 k n39 n40 n41)), (fun k n0 n3 => (hHq1 k n0)), Or.inl ⟨rfl, trivial⟩⟩
    · skip
      refine pe_iload (j := 4) (by decide +kernel) rfl ?_
      refine pe_iconstv (n := 1) (v := 1) (by decide +kernel) (by decide +kernel) ?_
      refine pe_aload_n (j := 0) (by decide +kernel) rfl ?_
      refine pe_get (j := 34) (ci := 11) (n := 4) (by decide +kernel) (by decide +kernel) cd_o0 rfl ?_
      refine pe_get (j := 287) (ci := 7) (n := 0) (by decide +kernel) (by decide +kernel) cd_o33 rfl ?_
      refine pe_topV (v := .ref v4) (hR0q1) ?_
      refine pe_get (j := 120) (ci := 9) (n := 2) (by decide +kernel) (by decide +kernel) (cv_o hv4) rfl ?_
      have hr_f_16v42 := cv_wants hv4 hI
      refine pe_top (v := (f (16 * v4 + 2))) ((hGq1 (16 * v4 + 2) (by omega) (by omega))) ?_
      refine pz_shl7 (by decide +kernel) rfl (by omega) (by omega) (fun z9 hz9 => ?_)
      refine pz_icmp_lt (off := 5) (t := 34) (by decide +kernel) (by decide) rfl rfl rfl (fun h10 => ?_) (fun h10 => ?_)
      · skip
        refine pe_aload_n (j := 0) (by decide +kernel) rfl ?_
        refine pe_get (j := 55) (ci := 11) (n := 7) (by decide +kernel) (by decide +kernel) cd_o0 rfl ?_
        refine pe_aload_n (j := 0) (by decide +kernel) rfl ?_
        refine pe_get (j := 34) (ci := 11) (n := 4) (by decide +kernel) (by decide +kernel) cd_o0 rfl ?_
        refine pz_callV (j := 338) (mj := 159) (by decide +kernel) (cll_V (args := [.ref 33]) (n := 1) (by decide +kernel) rfl rfl cd_o68 (by decide +kernel) (Nat.le_of_ble_eq_true rfl) (Nat.le_of_ble_eq_true rfl)) (CM_159 hX hIq1 hv4 (hR0q1)) (fun q11a q11b q11c q11d hqq11 => ?_)
        obtain ⟨f12, A13, R14, eq11, hIq11, hGq11, hFq11, hHq11, hS3q11, kq11⟩ := hqq11
        cases eq11
        refine ⟨rfl, rfl, ?_⟩
        show pmE pg X pg_tyl pg_cl (d + 6) 168 45 [.ref 0, .int x1, .int x2, .int x3, .int x4] [] (cd f12 A13 R14 wr) _
        refine pe_iconstv (n := 1) (v := 1) (by decide +kernel) (by decide +kernel) ?_
        exact pe_iret (by decide +kernel) rfl rfl ⟨f12, A13, R14, 1, rfl, hIq11, (fun k n529 n530 n1095 => ((hGq11 k n1095)).trans ((hGq1 k n529 n530))), (fun k n39 n40 n41 n74 n77 => ((hFq11 k n74 n77)).trans ((hFq1 k n39 n40 n41))), (fun k n0 n3 => ((hHq11 k n3)).trans ((hHq1 k n0))), Or.inr (⟨rfl, ⟨v4, hv4, ((hHq11 0 (by decide))).trans (hR0q1), hS3q11⟩, (by omega)⟩)⟩
      · skip
        refine pe_iconstv (n := 0) (v := 0) (by decide +kernel) (by decide +kernel) ?_
        exact pe_iret (by decide +kernel) rfl rfl ⟨f2, A3, R4, 0, rfl, hIq1, (fun k n529 n530 n1095 => (hGq1 k n529 n530)), (fun k n39 n40 n41 n74 n77 => (hFq1 k n39 n40 n41)), (fun k n0 n3 => (hHq1 k n0)), Or.inl ⟨rfl, trivial⟩⟩
set_option maxRecDepth 100000 in
set_option maxHeartbeats 8000000 in
theorem CM_131 {X : pm_X} {d : Nat} {wr : pm_W} {f : Nat → Int32} {A : Nat → List Int32} {R : Nat → Value} {x1 x2 x3 x4 x5 : Int32} (hX : XO X) (hI : CI f A R) : pmE pg X pg_tyl pg_cl (d + 10) 131 0 (pm_ent (pm_max pg 131) [.ref 0, .int x1, .int x2, .int x3, .int x4, .int x5]) [] (cd f A R wr) (fun q => ∃ (f' : Nat → Int32) (A' : Nat → List Int32) (R' : Nat → Value) (r : Int32), q = (some (.int r), cd f' A' R' wr, 0, 0) ∧ CI f' A' R' ∧ (∀ k : Nat, k ≠ 529 → k ≠ 530 → k ≠ 881 → k ≠ 882 → k ≠ 886 → k ≠ 887 → f' k = f k) ∧ (∀ k : Nat, k ≠ 39 → k ≠ 40 → k ≠ 41 → k ≠ 65 → k ≠ 66 → k ≠ 67 → A' k = A k) ∧ (∀ k : Nat, k ≠ 0 → k ≠ 2 → k ≠ 5 → R' k = R k) ∧ ((r = 0 ∧ True) ∨ (r = 1 ∧ (∃ v : Nat, VV v ∧ R' 0 = .ref v) ∧ (0 ≤ x3.toInt ∧ x3.toInt ≤ 30) ∧ (0 ≤ x4.toInt ∧ x4.toInt ≤ 6) ∧ (0 ≤ x5.toInt ∧ x5.toInt ≤ 2)))) := by
  show pmE pg X pg_tyl pg_cl (d + 10) 131 0 [.ref 0, .int x1, .int x2, .int x3, .int x4, .int x5] [] (cd f A R wr) _
  refine pe_iload (j := 5) (by decide +kernel) rfl ?_
  refine pi_S (j := 317) (mj := 132) (by decide +kernel) (by decide +kernel) rfl ?_
  show pmE pg X pg_tyl pg_cl (d + 9) 132 0 [.int x5] [] (cd f A R wr) _
  refine pe_iload_n (j := 0) (by decide +kernel) rfl ?_
  have lw2 := zi_lo x5
  have uw2 := zi_hi x5
  refine pz_if_eq (off := 13) (t := 14) (by decide +kernel) (by decide) rfl rfl (fun h1 => ?_) (fun h1 => ?_)
  · skip
    refine pe_iconstv (n := 1) (v := 1) (by decide +kernel) (by decide +kernel) ?_
    refine pe_goto (off := 4) (t := 19) (by decide +kernel) (by decide) rfl ?_
    refine pe_iret (by decide +kernel) rfl rfl ⟨rfl, rfl, ?_⟩
    show pmE pg X pg_tyl pg_cl (d + 10) 131 5 [.ref 0, .int x1, .int x2, .int x3, .int x4, .int x5] [.int 1] (cd f A R wr) _
    refine pz_if_eq (off := 28) (t := 33) (by decide +kernel) (by decide) rfl kz_1 (fun h3 => by omega) (fun h3 => ?_)
    refine pe_aload_n (j := 0) (by decide +kernel) rfl ?_
    refine pe_iload_n (j := 1) (by decide +kernel) rfl ?_
    refine pe_iload_n (j := 2) (by decide +kernel) rfl ?_
    refine pe_iload_n (j := 3) (by decide +kernel) rfl ?_
    refine pz_callV (j := 201) (mj := 98) (by decide +kernel) (cll_V (args := [.int x3, .int x2, .int x1]) (n := 3) (by decide +kernel) rfl rfl cd_o0 (by decide +kernel) (Nat.le_of_ble_eq_true rfl) (Nat.le_of_ble_eq_true rfl)) (CM_98 hX hI) (fun q4a q4b q4c q4d hqq4 => ?_)
    obtain ⟨f5, A6, R7, rq4, eq4, hIq4, hGq4, hFq4, hHq4, kq4⟩ := hqq4
    cases eq4
    refine ⟨rfl, rfl, ?_⟩
    rcases kq4 with kq4 | kq4
    · skip
      obtain ⟨erq4, kq4⟩ := kq4
      subst erq4
      show pmE pg X pg_tyl pg_cl (d + 10) 131 15 [.ref 0, .int x1, .int x2, .int x3, .int x4, .int x5] [.int 0] (cd f5 A6 R7 wr) _
      refine pz_if_eq (off := 18) (t := 33) (by decide +kernel) (by decide) rfl kz_0 (fun h8 => ?_) (fun h8 => by omega)
      refine pe_iconstv (n := 0) (v := 0) (by decide +kernel) (by decide +kernel) ?_
      exact pe_iret (by decide +kernel) rfl rfl ⟨f5, A6, R7, 0, rfl, hIq4, (fun k n529 n530 n881 n882 n886 n887 => (hGq4 k n529 n530)), (fun k n39 n40 n41 n65 n66 n67 => (hFq4 k n39 n40 n41)), (fun k n0 n2 n5 => (hHq4 k n0)), Or.inl ⟨rfl, trivial⟩⟩
    · skip
      obtain ⟨erq4, kq4⟩ := kq4
      subst erq4
      obtain ⟨⟨v12, hv12, hR0q4⟩, kq4⟩ := kq4
      have bv12 := VV_b hv12
      show pmE pg X pg_tyl pg_cl (d + 10) 131 15 [.ref 0, .int x1, .int x2, .int x3, .int x4, .int x5] [.int 1] (cd f5 A6 R7 wr) _
      refine pz_if_eq (off := 18) (t := 33) (by decide +kernel) (by decide) rfl kz_1 (fun h9 => by omega) (fun h9 => ?_)
      refine pe_aload_n (j := 0) (by decide +kernel) rfl ?_
      refine pe_get (j := 34) (ci := 11) (n := 4) (by decide +kernel) (by decide +kernel) cd_o0 rfl ?_
      refine pe_get (j := 287) (ci := 7) (n := 0) (by decide +kernel) (by decide +kernel) cd_o33 rfl ?_
      refine pe_topV (v := .ref v12) (hR0q4) ?_
      refine pe_iload (j := 4) (by decide +kernel) rfl ?_
      refine pi_V (j := 142) (mj := 64) (by decide +kernel) (cll_V (args := [.int x4]) (n := 1) (by decide +kernel) rfl rfl (cv_o hv12) (by decide +kernel) (Nat.le_of_ble_eq_true rfl) (Nat.le_of_ble_eq_true rfl)) ?_
      show pmE pg X pg_tyl pg_cl (d + 9) 64 0 [.ref v12, .int x4] [] (cd f5 A6 R7 wr) _
      refine pe_iload_n (j := 1) (by decide +kernel) rfl ?_
      have lw11 := zi_lo x4
      have uw11 := zi_hi x4
      refine pz_if_lt (off := 15) (t := 16) (by decide +kernel) (by decide) rfl rfl (fun h10 => ?_) (fun h10 => ?_)
      · skip
        refine pe_iconstv (n := 0) (v := 0) (by decide +kernel) (by decide +kernel) ?_
        refine pe_iret (by decide +kernel) rfl rfl ⟨rfl, rfl, ?_⟩
        show pmE pg X pg_tyl pg_cl (d + 10) 131 30 [.ref 0, .int x1, .int x2, .int x3, .int x4, .int x5] [.int 0] (cd f5 A6 R7 wr) _
        refine pz_if_ne (off := 5) (t := 35) (by decide +kernel) (by decide) rfl kz_0 (fun h12 => by omega) (fun h12 => ?_)
        refine pe_iconstv (n := 0) (v := 0) (by decide +kernel) (by decide +kernel) ?_
        exact pe_iret (by decide +kernel) rfl rfl ⟨f5, A6, R7, 0, rfl, hIq4, (fun k n529 n530 n881 n882 n886 n887 => (hGq4 k n529 n530)), (fun k n39 n40 n41 n65 n66 n67 => (hFq4 k n39 n40 n41)), (fun k n0 n2 n5 => (hHq4 k n0)), Or.inl ⟨rfl, trivial⟩⟩
      · skip
        refine pe_iload_n (j := 1) (by decide +kernel) rfl ?_
        refine pe_aload_n (j := 0) (by decide +kernel) rfl ?_
        refine pe_get (j := 31) (ci := 9) (n := 2) (by decide +kernel) (by decide +kernel) (cv_o hv12) rfl ?_
        have hr_f_16v122 := cv_wants hv12 hI
        refine pe_top (v := (f (16 * v12 + 2))) ((hGq4 (16 * v12 + 2) (by omega) (by omega))) ?_
        refine pz_icmp_ge (off := 7) (t := 16) (by decide +kernel) (by decide) rfl rfl rfl (fun h13 => ?_) (fun h13 => ?_)
        · skip
          refine pe_iconstv (n := 0) (v := 0) (by decide +kernel) (by decide +kernel) ?_
          refine pe_iret (by decide +kernel) rfl rfl ⟨rfl, rfl, ?_⟩
          show pmE pg X pg_tyl pg_cl (d + 10) 131 30 [.ref 0, .int x1, .int x2, .int x3, .int x4, .int x5] [.int 0] (cd f5 A6 R7 wr) _
          refine pz_if_ne (off := 5) (t := 35) (by decide +kernel) (by decide) rfl kz_0 (fun h14 => by omega) (fun h14 => ?_)
          refine pe_iconstv (n := 0) (v := 0) (by decide +kernel) (by decide +kernel) ?_
          exact pe_iret (by decide +kernel) rfl rfl ⟨f5, A6, R7, 0, rfl, hIq4, (fun k n529 n530 n881 n882 n886 n887 => (hGq4 k n529 n530)), (fun k n39 n40 n41 n65 n66 n67 => (hFq4 k n39 n40 n41)), (fun k n0 n2 n5 => (hHq4 k n0)), Or.inl ⟨rfl, trivial⟩⟩
        · skip
          refine pe_iconstv (n := 1) (v := 1) (by decide +kernel) (by decide +kernel) ?_
          refine pe_goto (off := 4) (t := 17) (by decide +kernel) (by decide) rfl ?_
          refine pe_iret (by decide +kernel) rfl rfl ⟨rfl, rfl, ?_⟩
          show pmE pg X pg_tyl pg_cl (d + 10) 131 30 [.ref 0, .int x1, .int x2, .int x3, .int x4, .int x5] [.int 1] (cd f5 A6 R7 wr) _
          refine pz_if_ne (off := 5) (t := 35) (by decide +kernel) (by decide) rfl kz_1 (fun h15 => ?_) (fun h15 => by omega)
          refine pe_aload_n (j := 0) (by decide +kernel) rfl ?_
          refine pe_get (j := 48) (ci := 11) (n := 6) (by decide +kernel) (by decide +kernel) cd_o0 rfl ?_
          refine pe_aload_n (j := 0) (by decide +kernel) rfl ?_
          refine pe_get (j := 34) (ci := 11) (n := 4) (by decide +kernel) (by decide +kernel) cd_o0 rfl ?_
          refine pe_iload (j := 4) (by decide +kernel) rfl ?_
          refine pe_iload (j := 5) (by decide +kernel) rfl ?_
          refine pz_callV (j := 385) (mj := 133) (by decide +kernel) (cll_V (args := [.int x5, .int x4, .ref 33]) (n := 3) (by decide +kernel) rfl rfl cd_o55 (by decide +kernel) (Nat.le_of_ble_eq_true rfl) (Nat.le_of_ble_eq_true rfl)) (CM_133 hX hIq4 hv12 (hR0q4) (by omega)) (fun q16a q16b q16c q16d hqq16 => ?_)
          obtain ⟨f17, A18, R19, rq16, eq16, hIq16, hGq16, hFq16, hHq16, kq16⟩ := hqq16
          cases eq16
          refine ⟨rfl, rfl, ?_⟩
          rcases kq16 with kq16 | kq16
          · skip
            obtain ⟨erq16, kq16⟩ := kq16
            subst erq16
            show pmE pg X pg_tyl pg_cl (d + 10) 131 50 [.ref 0, .int x1, .int x2, .int x3, .int x4, .int x5] [.int 0] (cd f17 A18 R19 wr) _
            exact pe_iret (by decide +kernel) rfl rfl ⟨f17, A18, R19, 0, rfl, hIq16, (fun k n529 n530 n881 n882 n886 n887 => ((hGq16 k n881 n882 n886 n887)).trans ((hGq4 k n529 n530))), (fun k n39 n40 n41 n65 n66 n67 => ((hFq16 k n65 n66 n67)).trans ((hFq4 k n39 n40 n41))), (fun k n0 n2 n5 => ((hHq16 k n2 n5)).trans ((hHq4 k n0))), Or.inl ⟨rfl, trivial⟩⟩
          · skip
            obtain ⟨erq16, kq16⟩ := kq16
            subst erq16
            show pmE pg X pg_tyl pg_cl (d + 10) 131 50 [.ref 0, .int x1, .int x2, .int x3, .int x4, .int x5] [.int 1] (cd f17 A18 R19 wr) _
            exact pe_iret (by decide +kernel) rfl rfl ⟨f17, A18, R19, 1, rfl, hIq16, (fun k n529 n530 n881 n882 n886 n887 => ((hGq16 k n881 n882 n886 n887)).trans ((hGq4 k n529 n530))), (fun k n39 n40 n41 n65 n66 n67 => ((hFq16 k n65 n66 n67)).trans ((hFq4 k n39 n40 n41))), (fun k n0 n2 n5 => ((hHq16 k n2 n5)).trans ((hHq4 k n0))), Or.inr (⟨rfl, ⟨v12, hv12, ((hHq16 0 (by decide) (by decide))).trans (hR0q4)⟩, (by omega)⟩)⟩
  · skip
    refine pe_iload_n (j := 0) (by decide +kernel) rfl ?_
    refine pe_iconstv (n := 1) (v := 1) (by decide +kernel) (by decide +kernel) ?_
    refine pz_icmp_eq (off := 8) (t := 14) (by decide +kernel) (by decide) rfl rfl kz_1 (fun h20 => ?_) (fun h20 => ?_)
    · skip
      refine pe_iconstv (n := 1) (v := 1) (by decide +kernel) (by decide +kernel) ?_
      refine pe_goto (off := 4) (t := 19) (by decide +kernel) (by decide) rfl ?_
      refine pe_iret (by decide +kernel) rfl rfl ⟨rfl, rfl, ?_⟩
      show pmE pg X pg_tyl pg_cl (d + 10) 131 5 [.ref 0, .int x1, .int x2, .int x3, .int x4, .int x5] [.int 1] (cd f A R wr) _
      refine pz_if_eq (off := 28) (t := 33) (by decide +kernel) (by decide) rfl kz_1 (fun h21 => by omega) (fun h21 => ?_)
      refine pe_aload_n (j := 0) (by decide +kernel) rfl ?_
      refine pe_iload_n (j := 1) (by decide +kernel) rfl ?_
      refine pe_iload_n (j := 2) (by decide +kernel) rfl ?_
      refine pe_iload_n (j := 3) (by decide +kernel) rfl ?_
      refine pz_callV (j := 201) (mj := 98) (by decide +kernel) (cll_V (args := [.int x3, .int x2, .int x1]) (n := 3) (by decide +kernel) rfl rfl cd_o0 (by decide +kernel) (Nat.le_of_ble_eq_true rfl) (Nat.le_of_ble_eq_true rfl)) (CM_98 hX hI) (fun q22a q22b q22c q22d hqq22 => ?_)
      obtain ⟨f23, A24, R25, rq22, eq22, hIq22, hGq22, hFq22, hHq22, kq22⟩ := hqq22
      cases eq22
      refine ⟨rfl, rfl, ?_⟩
      rcases kq22 with kq22 | kq22
      · skip
        obtain ⟨erq22, kq22⟩ := kq22
        subst erq22
        show pmE pg X pg_tyl pg_cl (d + 10) 131 15 [.ref 0, .int x1, .int x2, .int x3, .int x4, .int x5] [.int 0] (cd f23 A24 R25 wr) _
        refine pz_if_eq (off := 18) (t := 33) (by decide +kernel) (by decide) rfl kz_0 (fun h26 => ?_) (fun h26 => by omega)
        refine pe_iconstv (n := 0) (v := 0) (by decide +kernel) (by decide +kernel) ?_
        exact pe_iret (by decide +kernel) rfl rfl ⟨f23, A24, R25, 0, rfl, hIq22, (fun k n529 n530 n881 n882 n886 n887 => (hGq22 k n529 n530)), (fun k n39 n40 n41 n65 n66 n67 => (hFq22 k n39 n40 n41)), (fun k n0 n2 n5 => (hHq22 k n0)), Or.inl ⟨rfl, trivial⟩⟩
      · skip
        obtain ⟨erq22, kq22⟩ := kq22
        subst erq22
        obtain ⟨⟨v12, hv12, hR0q22⟩, kq22⟩ := kq22
        have bv12 := VV_b hv12
        show pmE pg X pg_tyl pg_cl (d + 10) 131 15 [.ref 0, .int x1, .int x2, .int x3, .int x4, .int x5] [.int 1] (cd f23 A24 R25 wr) _
        refine pz_if_eq (off := 18) (t := 33) (by decide +kernel) (by decide) rfl kz_1 (fun h27 => by omega) (fun h27 => ?_)
        refine pe_aload_n (j := 0) (by decide +kernel) rfl ?_
        refine pe_get (j := 34) (ci := 11) (n := 4) (by decide +kernel) (by decide +kernel) cd_o0 rfl ?_
        refine pe_get (j := 287) (ci := 7) (n := 0) (by decide +kernel) (by decide +kernel) cd_o33 rfl ?_
        refine pe_topV (v := .ref v12) (hR0q22) ?_
        refine pe_iload (j := 4) (by decide +kernel) rfl ?_
        refine pi_V (j := 142) (mj := 64) (by decide +kernel) (cll_V (args := [.int x4]) (n := 1) (by decide +kernel) rfl rfl (cv_o hv12) (by decide +kernel) (Nat.le_of_ble_eq_true rfl) (Nat.le_of_ble_eq_true rfl)) ?_
        show pmE pg X pg_tyl pg_cl (d + 9) 64 0 [.ref v12, .int x4] [] (cd f23 A24 R25 wr) _
        refine pe_iload_n (j := 1) (by decide +kernel) rfl ?_
        have lw29 := zi_lo x4
        have uw29 := zi_hi x4
        refine pz_if_lt (off := 15) (t := 16) (by decide +kernel) (by decide) rfl rfl (fun h28 => ?_) (fun h28 => ?_)
        · skip
          refine pe_iconstv (n := 0) (v := 0) (by decide +kernel) (by decide +kernel) ?_
          refine pe_iret (by decide +kernel) rfl rfl ⟨rfl, rfl, ?_⟩
          show pmE pg X pg_tyl pg_cl (d + 10) 131 30 [.ref 0, .int x1, .int x2, .int x3, .int x4, .int x5] [.int 0] (cd f23 A24 R25 wr) _
          refine pz_if_ne (off := 5) (t := 35) (by decide +kernel) (by decide) rfl kz_0 (fun h30 => by omega) (fun h30 => ?_)
          refine pe_iconstv (n := 0) (v := 0) (by decide +kernel) (by decide +kernel) ?_
          exact pe_iret (by decide +kernel) rfl rfl ⟨f23, A24, R25, 0, rfl, hIq22, (fun k n529 n530 n881 n882 n886 n887 => (hGq22 k n529 n530)), (fun k n39 n40 n41 n65 n66 n67 => (hFq22 k n39 n40 n41)), (fun k n0 n2 n5 => (hHq22 k n0)), Or.inl ⟨rfl, trivial⟩⟩
        · skip
          refine pe_iload_n (j := 1) (by decide +kernel) rfl ?_
          refine pe_aload_n (j := 0) (by decide +kernel) rfl ?_
          refine pe_get (j := 31) (ci := 9) (n := 2) (by decide +kernel) (by decide +kernel) (cv_o hv12) rfl ?_
          have hr_f_16v122 := cv_wants hv12 hI
          refine pe_top (v := (f (16 * v12 + 2))) ((hGq22 (16 * v12 + 2) (by omega) (by omega))) ?_
          refine pz_icmp_ge (off := 7) (t := 16) (by decide +kernel) (by decide) rfl rfl rfl (fun h31 => ?_) (fun h31 => ?_)
          · skip
            refine pe_iconstv (n := 0) (v := 0) (by decide +kernel) (by decide +kernel) ?_
            refine pe_iret (by decide +kernel) rfl rfl ⟨rfl, rfl, ?_⟩
            show pmE pg X pg_tyl pg_cl (d + 10) 131 30 [.ref 0, .int x1, .int x2, .int x3, .int x4, .int x5] [.int 0] (cd f23 A24 R25 wr) _
            refine pz_if_ne (off := 5) (t := 35) (by decide +kernel) (by decide) rfl kz_0 (fun h32 => by omega) (fun h32 => ?_)
            refine pe_iconstv (n := 0) (v := 0) (by decide +kernel) (by decide +kernel) ?_
            exact pe_iret (by decide +kernel) rfl rfl ⟨f23, A24, R25, 0, rfl, hIq22, (fun k n529 n530 n881 n882 n886 n887 => (hGq22 k n529 n530)), (fun k n39 n40 n41 n65 n66 n67 => (hFq22 k n39 n40 n41)), (fun k n0 n2 n5 => (hHq22 k n0)), Or.inl ⟨rfl, trivial⟩⟩
          · skip
            refine pe_iconstv (n := 1) (v := 1) (by decide +kernel) (by decide +kernel) ?_
            refine pe_goto (off := 4) (t := 17) (by decide +kernel) (by decide) rfl ?_
            refine pe_iret (by decide +kernel) rfl rfl ⟨rfl, rfl, ?_⟩
            show pmE pg X pg_tyl pg_cl (d + 10) 131 30 [.ref 0, .int x1, .int x2, .int x3, .int x4, .int x5] [.int 1] (cd f23 A24 R25 wr) _
            refine pz_if_ne (off := 5) (t := 35) (by decide +kernel) (by decide) rfl kz_1 (fun h33 => ?_) (fun h33 => by omega)
            refine pe_aload_n (j := 0) (by decide +kernel) rfl ?_
            refine pe_get (j := 48) (ci := 11) (n := 6) (by decide +kernel) (by decide +kernel) cd_o0 rfl ?_
            refine pe_aload_n (j := 0) (by decide +kernel) rfl ?_
            refine pe_get (j := 34) (ci := 11) (n := 4) (by decide +kernel) (by decide +kernel) cd_o0 rfl ?_
            refine pe_iload (j := 4) (by decide +kernel) rfl ?_
            refine pe_iload (j := 5) (by decide +kernel) rfl ?_
            refine pz_callV (j := 385) (mj := 133) (by decide +kernel) (cll_V (args := [.int x5, .int x4, .ref 33]) (n := 3) (by decide +kernel) rfl rfl cd_o55 (by decide +kernel) (Nat.le_of_ble_eq_true rfl) (Nat.le_of_ble_eq_true rfl)) (CM_133 hX hIq22 hv12 (hR0q22) (by omega)) (fun q34a q34b q34c q34d hqq34 => ?_)
            obtain ⟨f35, A36, R37, rq34, eq34, hIq34, hGq34, hFq34, hHq34, kq34⟩ := hqq34
            cases eq34
            refine ⟨rfl, rfl, ?_⟩
            rcases kq34 with kq34 | kq34
            · skip
              obtain ⟨erq34, kq34⟩ := kq34
              subst erq34
              show pmE pg X pg_tyl pg_cl (d + 10) 131 50 [.ref 0, .int x1, .int x2, .int x3, .int x4, .int x5] [.int 0] (cd f35 A36 R37 wr) _
              exact pe_iret (by decide +kernel) rfl rfl ⟨f35, A36, R37, 0, rfl, hIq34, (fun k n529 n530 n881 n882 n886 n887 => ((hGq34 k n881 n882 n886 n887)).trans ((hGq22 k n529 n530))), (fun k n39 n40 n41 n65 n66 n67 => ((hFq34 k n65 n66 n67)).trans ((hFq22 k n39 n40 n41))), (fun k n0 n2 n5 => ((hHq34 k n2 n5)).trans ((hHq22 k n0))), Or.inl ⟨rfl, trivial⟩⟩
            · skip
              obtain ⟨erq34, kq34⟩ := kq34
              subst erq34
              show pmE pg X pg_tyl pg_cl (d + 10) 131 50 [.ref 0, .int x1, .int x2, .int x3, .int x4, .int x5] [.int 1] (cd f35 A36 R37 wr) _
              exact pe_iret (by decide +kernel) rfl rfl ⟨f35, A36, R37, 1, rfl, hIq34, (fun k n529 n530 n881 n882 n886 n887 => ((hGq34 k n881 n882 n886 n887)).trans ((hGq22 k n529 n530))), (fun k n39 n40 n41 n65 n66 n67 => ((hFq34 k n65 n66 n67)).trans ((hFq22 k n39 n40 n41))), (fun k n0 n2 n5 => ((hHq34 k n2 n5)).trans ((hHq22 k n0))), Or.inr (⟨rfl, ⟨v12, hv12, ((hHq34 0 (by decide) (by decide))).trans (hR0q22)⟩, (by omega)⟩)⟩
    · skip
      refine pe_iload_n (j := 0) (by decide +kernel) rfl ?_
      refine pe_iconstv (n := 2) (v := 2) (by decide +kernel) (by decide +kernel) ?_
      refine pz_icmp_ne (off := 7) (t := 18) (by decide +kernel) (by decide) rfl rfl kz_2 (fun h38 => ?_) (fun h38 => ?_)
      · skip
        refine pe_iconstv (n := 0) (v := 0) (by decide +kernel) (by decide +kernel) ?_
        refine pe_iret (by decide +kernel) rfl rfl ⟨rfl, rfl, ?_⟩
        show pmE pg X pg_tyl pg_cl (d + 10) 131 5 [.ref 0, .int x1, .int x2, .int x3, .int x4, .int x5] [.int 0] (cd f A R wr) _
        refine pz_if_eq (off := 28) (t := 33) (by decide +kernel) (by decide) rfl kz_0 (fun h39 => ?_) (fun h39 => by omega)
        refine pe_iconstv (n := 0) (v := 0) (by decide +kernel) (by decide +kernel) ?_
        exact pe_iret (by decide +kernel) rfl rfl ⟨f, A, R, 0, rfl, hI, (fun k n529 n530 n881 n882 n886 n887 => rfl), (fun k n39 n40 n41 n65 n66 n67 => rfl), (fun k n0 n2 n5 => rfl), Or.inl ⟨rfl, trivial⟩⟩
      · skip
        refine pe_iconstv (n := 1) (v := 1) (by decide +kernel) (by decide +kernel) ?_
        refine pe_goto (off := 4) (t := 19) (by decide +kernel) (by decide) rfl ?_
        refine pe_iret (by decide +kernel) rfl rfl ⟨rfl, rfl, ?_⟩
        show pmE pg X pg_tyl pg_cl (d + 10) 131 5 [.ref 0, .int x1, .int x2, .int x3, .int x4, .int x5] [.int 1] (cd f A R wr) _
        refine pz_if_eq (off := 28) (t := 33) (by decide +kernel) (by decide) rfl kz_1 (fun h40 => by omega) (fun h40 => ?_)
        refine pe_aload_n (j := 0) (by decide +kernel) rfl ?_
        refine pe_iload_n (j := 1) (by decide +kernel) rfl ?_
        refine pe_iload_n (j := 2) (by decide +kernel) rfl ?_
        refine pe_iload_n (j := 3) (by decide +kernel) rfl ?_
        refine pz_callV (j := 201) (mj := 98) (by decide +kernel) (cll_V (args := [.int x3, .int x2, .int x1]) (n := 3) (by decide +kernel) rfl rfl cd_o0 (by decide +kernel) (Nat.le_of_ble_eq_true rfl) (Nat.le_of_ble_eq_true rfl)) (CM_98 hX hI) (fun q41a q41b q41c q41d hqq41 => ?_)
        obtain ⟨f42, A43, R44, rq41, eq41, hIq41, hGq41, hFq41, hHq41, kq41⟩ := hqq41
        cases eq41
        refine ⟨rfl, rfl, ?_⟩
        rcases kq41 with kq41 | kq41
        · skip
          obtain ⟨erq41, kq41⟩ := kq41
          subst erq41
          show pmE pg X pg_tyl pg_cl (d + 10) 131 15 [.ref 0, .int x1, .int x2, .int x3, .int x4, .int x5] [.int 0] (cd f42 A43 R44 wr) _
          refine pz_if_eq (off := 18) (t := 33) (by decide +kernel) (by decide) rfl kz_0 (fun h45 => ?_) (fun h45 => by omega)
          refine pe_iconstv (n := 0) (v := 0) (by decide +kernel) (by decide +kernel) ?_
          exact pe_iret (by decide +kernel) rfl rfl ⟨f42, A43, R44, 0, rfl, hIq41, (fun k n529 n530 n881 n882 n886 n887 => (hGq41 k n529 n530)), (fun k n39 n40 n41 n65 n66 n67 => (hFq41 k n39 n40 n41)), (fun k n0 n2 n5 => (hHq41 k n0)), Or.inl ⟨rfl, trivial⟩⟩
        · skip
          obtain ⟨erq41, kq41⟩ := kq41
          subst erq41
          obtain ⟨⟨v12, hv12, hR0q41⟩, kq41⟩ := kq41
          have bv12 := VV_b hv12
          show pmE pg X pg_tyl pg_cl (d + 10) 131 15 [.ref 0, .int x1, .int x2, .int x3, .int x4, .int x5] [.int 1] (cd f42 A43 R44 wr) _
          refine pz_if_eq (off := 18) (t := 33) (by decide +kernel) (by decide) rfl kz_1 (fun h46 => by omega) (fun h46 => ?_)
          refine pe_aload_n (j := 0) (by decide +kernel) rfl ?_
          refine pe_get (j := 34) (ci := 11) (n := 4) (by decide +kernel) (by decide +kernel) cd_o0 rfl ?_
          refine pe_get (j := 287) (ci := 7) (n := 0) (by decide +kernel) (by decide +kernel) cd_o33 rfl ?_
          refine pe_topV (v := .ref v12) (hR0q41) ?_
          refine pe_iload (j := 4) (by decide +kernel) rfl ?_
          refine pi_V (j := 142) (mj := 64) (by decide +kernel) (cll_V (args := [.int x4]) (n := 1) (by decide +kernel) rfl rfl (cv_o hv12) (by decide +kernel) (Nat.le_of_ble_eq_true rfl) (Nat.le_of_ble_eq_true rfl)) ?_
          show pmE pg X pg_tyl pg_cl (d + 9) 64 0 [.ref v12, .int x4] [] (cd f42 A43 R44 wr) _
          refine pe_iload_n (j := 1) (by decide +kernel) rfl ?_
          have lw48 := zi_lo x4
          have uw48 := zi_hi x4
          refine pz_if_lt (off := 15) (t := 16) (by decide +kernel) (by decide) rfl rfl (fun h47 => ?_) (fun h47 => ?_)
          · skip
            refine pe_iconstv (n := 0) (v := 0) (by decide +kernel) (by decide +kernel) ?_
            refine pe_iret (by decide +kernel) rfl rfl ⟨rfl, rfl, ?_⟩
            show pmE pg X pg_tyl pg_cl (d + 10) 131 30 [.ref 0, .int x1, .int x2, .int x3, .int x4, .int x5] [.int 0] (cd f42 A43 R44 wr) _
            refine pz_if_ne (off := 5) (t := 35) (by decide +kernel) (by decide) rfl kz_0 (fun h49 => by omega) (fun h49 => ?_)
            refine pe_iconstv (n := 0) (v := 0) (by decide +kernel) (by decide +kernel) ?_
            exact pe_iret (by decide +kernel) rfl rfl ⟨f42, A43, R44, 0, rfl, hIq41, (fun k n529 n530 n881 n882 n886 n887 => (hGq41 k n529 n530)), (fun k n39 n40 n41 n65 n66 n67 => (hFq41 k n39 n40 n41)), (fun k n0 n2 n5 => (hHq41 k n0)), Or.inl ⟨rfl, trivial⟩⟩
          · skip
            refine pe_iload_n (j := 1) (by decide +kernel) rfl ?_
            refine pe_aload_n (j := 0) (by decide +kernel) rfl ?_
            refine pe_get (j := 31) (ci := 9) (n := 2) (by decide +kernel) (by decide +kernel) (cv_o hv12) rfl ?_
            have hr_f_16v122 := cv_wants hv12 hI
            refine pe_top (v := (f (16 * v12 + 2))) ((hGq41 (16 * v12 + 2) (by omega) (by omega))) ?_
            refine pz_icmp_ge (off := 7) (t := 16) (by decide +kernel) (by decide) rfl rfl rfl (fun h50 => ?_) (fun h50 => ?_)
            · skip
              refine pe_iconstv (n := 0) (v := 0) (by decide +kernel) (by decide +kernel) ?_
              refine pe_iret (by decide +kernel) rfl rfl ⟨rfl, rfl, ?_⟩
              show pmE pg X pg_tyl pg_cl (d + 10) 131 30 [.ref 0, .int x1, .int x2, .int x3, .int x4, .int x5] [.int 0] (cd f42 A43 R44 wr) _
              refine pz_if_ne (off := 5) (t := 35) (by decide +kernel) (by decide) rfl kz_0 (fun h51 => by omega) (fun h51 => ?_)
              refine pe_iconstv (n := 0) (v := 0) (by decide +kernel) (by decide +kernel) ?_
              exact pe_iret (by decide +kernel) rfl rfl ⟨f42, A43, R44, 0, rfl, hIq41, (fun k n529 n530 n881 n882 n886 n887 => (hGq41 k n529 n530)), (fun k n39 n40 n41 n65 n66 n67 => (hFq41 k n39 n40 n41)), (fun k n0 n2 n5 => (hHq41 k n0)), Or.inl ⟨rfl, trivial⟩⟩
            · skip
              refine pe_iconstv (n := 1) (v := 1) (by decide +kernel) (by decide +kernel) ?_
              refine pe_goto (off := 4) (t := 17) (by decide +kernel) (by decide) rfl ?_
              refine pe_iret (by decide +kernel) rfl rfl ⟨rfl, rfl, ?_⟩
              show pmE pg X pg_tyl pg_cl (d + 10) 131 30 [.ref 0, .int x1, .int x2, .int x3, .int x4, .int x5] [.int 1] (cd f42 A43 R44 wr) _
              refine pz_if_ne (off := 5) (t := 35) (by decide +kernel) (by decide) rfl kz_1 (fun h52 => ?_) (fun h52 => by omega)
              refine pe_aload_n (j := 0) (by decide +kernel) rfl ?_
              refine pe_get (j := 48) (ci := 11) (n := 6) (by decide +kernel) (by decide +kernel) cd_o0 rfl ?_
              refine pe_aload_n (j := 0) (by decide +kernel) rfl ?_
              refine pe_get (j := 34) (ci := 11) (n := 4) (by decide +kernel) (by decide +kernel) cd_o0 rfl ?_
              refine pe_iload (j := 4) (by decide +kernel) rfl ?_
              refine pe_iload (j := 5) (by decide +kernel) rfl ?_
              refine pz_callV (j := 385) (mj := 133) (by decide +kernel) (cll_V (args := [.int x5, .int x4, .ref 33]) (n := 3) (by decide +kernel) rfl rfl cd_o55 (by decide +kernel) (Nat.le_of_ble_eq_true rfl) (Nat.le_of_ble_eq_true rfl)) (CM_133 hX hIq41 hv12 (hR0q41) (by omega)) (fun q53a q53b q53c q53d hqq53 => ?_)
              obtain ⟨f54, A55, R56, rq53, eq53, hIq53, hGq53, hFq53, hHq53, kq53⟩ := hqq53
              cases eq53
              refine ⟨rfl, rfl, ?_⟩
              rcases kq53 with kq53 | kq53
              · skip
                obtain ⟨erq53, kq53⟩ := kq53
                subst erq53
                show pmE pg X pg_tyl pg_cl (d + 10) 131 50 [.ref 0, .int x1, .int x2, .int x3, .int x4, .int x5] [.int 0] (cd f54 A55 R56 wr) _
                exact pe_iret (by decide +kernel) rfl rfl ⟨f54, A55, R56, 0, rfl, hIq53, (fun k n529 n530 n881 n882 n886 n887 => ((hGq53 k n881 n882 n886 n887)).trans ((hGq41 k n529 n530))), (fun k n39 n40 n41 n65 n66 n67 => ((hFq53 k n65 n66 n67)).trans ((hFq41 k n39 n40 n41))), (fun k n0 n2 n5 => ((hHq53 k n2 n5)).trans ((hHq41 k n0))), Or.inl ⟨rfl, trivial⟩⟩
              · skip
                obtain ⟨erq53, kq53⟩ := kq53
                subst erq53
                show pmE pg X pg_tyl pg_cl (d + 10) 131 50 [.ref 0, .int x1, .int x2, .int x3, .int x4, .int x5] [.int 1] (cd f54 A55 R56 wr) _
                exact pe_iret (by decide +kernel) rfl rfl ⟨f54, A55, R56, 1, rfl, hIq53, (fun k n529 n530 n881 n882 n886 n887 => ((hGq53 k n881 n882 n886 n887)).trans ((hGq41 k n529 n530))), (fun k n39 n40 n41 n65 n66 n67 => ((hFq53 k n65 n66 n67)).trans ((hFq41 k n39 n40 n41))), (fun k n0 n2 n5 => ((hHq53 k n2 n5)).trans ((hHq41 k n0))), Or.inr (⟨rfl, ⟨v12, hv12, ((hHq53 0 (by decide) (by decide))).trans (hR0q41)⟩, (by omega)⟩)⟩
set_option maxRecDepth 100000 in
set_option maxHeartbeats 8000000 in
theorem CL_154_16 {X : pm_X} {d : Nat} {wr : pm_W} {Q : pm_R → Prop} {f : Nat → Int32} {A0 : Nat → List Int32} {R : Nat → Value} {x1 x2 : Int32} {v : Nat} (hX : XO X) (hv : VV v) (hR0 : R 0 = .ref v) (gx1 : (2 ≤ x1.toInt ∧ x1.toInt ≤ 6)) (gx2 : (0 ≤ x2.toInt)) (k_83_0 : ∀ (A' : Nat → List Int32) (y3 : Int32) (y4 : Int32) (y5 : Int32) (v6 : Value), CI f A' R → (∀ k : Nat, k ≠ 86 → A' k = A0 k) → (0 ≤ y3.toInt) → ((-1) ≤ y5.toInt ∧ y5.toInt ≤ (-1)) → pmE pg X pg_tyl pg_cl (d + 1) 154 83 [.ref 0, .int x1, .int x2, .int y3, .int y4, .int y5, v6] [] (cd f A' R wr) Q) (kr_0 : ∀ (A' : Nat → List Int32), CI f A' R → (∀ k : Nat, k ≠ 86 → A' k = A0 k) → Q (some (.int 0), cd f A' R wr, 0, 0)) : ∀ (m : Nat) (A : Nat → List Int32) (x3 : Int32) (x4 : Int32) (x5 : Int32) (u6 : Value), CI f A R → (∀ k : Nat, k ≠ 86 → A k = A0 k) → (0 ≤ x3.toInt) → ((-1) ≤ x5.toInt ∧ x5.toInt ≤ 5) → x5.toInt - (-1) < (m : Int) → pmE pg X pg_tyl pg_cl (d + 1) 154 16 [.ref 0, .int x1, .int x2, .int x3, .int x4, .int x5, u6] [] (cd f A R wr) Q := by
  have bv := VV_b hv
  intro m
  induction m with
  | zero =>
    intro A x3 x4 x5 u6 hI hF gx3 gx5 hm
    exfalso
    have l0 := zi_lo x5
    have u0 := zi_hi x5
    omega
  | succ m ih =>
    intro A x3 x4 x5 u6 hI hF gx3 gx5 hm
    refine pe_iload (j := 5) (by decide +kernel) rfl ?_
    refine pz_if_lt (off := 65) (t := 83) (by decide +kernel) (by decide) rfl rfl (fun h1 => ?_) (fun h1 => ?_)
    · skip
      exact k_83_0 A x3 x4 x5 (u6) hI (fun k n86 => (hF k n86)) (by omega) (by omega)
    · skip
      refine pe_iload_n (j := 3) (by decide +kernel) rfl ?_
      refine pe_bipushv (n := 10) (v := 10) (by decide +kernel) (by decide +kernel) ?_
      refine pz_rem (by decide +kernel) rfl kz_10 (by omega) (by omega) (fun z2 hz2 gz2 kz2 => ?_)
      refine pe_istore (j := 6) (ls' := [.ref 0, .int x1, .int x2, .int x3, .int x4, .int x5, .int z2]) (by decide +kernel) (Nat.le_of_ble_eq_true rfl) rfl ?_
      refine pe_iload_n (j := 3) (by decide +kernel) rfl ?_
      refine pe_bipushv (n := 10) (v := 10) (by decide +kernel) (by decide +kernel) ?_
      refine pz_div (by decide +kernel) rfl kz_10 (by omega) (by omega) (fun z3 hz3 => ?_)
      refine pe_istore_n (j := 3) (ls' := [.ref 0, .int x1, .int x2, .int z3, .int x4, .int x5, .int z2]) (by decide +kernel) (Nat.le_of_ble_eq_true rfl) rfl ?_
      refine pe_aload_n (j := 0) (by decide +kernel) rfl ?_
      refine pe_get (j := 34) (ci := 11) (n := 4) (by decide +kernel) (by decide +kernel) cd_o0 rfl ?_
      refine pe_get (j := 287) (ci := 7) (n := 0) (by decide +kernel) (by decide +kernel) cd_o33 rfl ?_
      refine pe_topV (v := .ref v) (hR0) ?_
      refine pe_iload (j := 6) (by decide +kernel) rfl ?_
      refine pi_V (j := 126) (mj := 61) (by decide +kernel) (cll_V (args := [.int z2]) (n := 1) (by decide +kernel) rfl rfl (cv_o hv) (by decide +kernel) (Nat.le_of_ble_eq_true rfl) (Nat.le_of_ble_eq_true rfl)) ?_
      show pmE pg X pg_tyl pg_cl (d) 61 0 [.ref v, .int z2] [] (cd f A R wr) _
      refine pe_iload_n (j := 1) (by decide +kernel) rfl ?_
      refine pz_if_lt (off := 15) (t := 16) (by decide +kernel) (by decide) rfl rfl (fun h4 => by omega) (fun h4 => ?_)
      refine pe_iload_n (j := 1) (by decide +kernel) rfl ?_
      refine pe_aload_n (j := 0) (by decide +kernel) rfl ?_
      refine pe_get (j := 9) (ci := 9) (n := 0) (by decide +kernel) (by decide +kernel) (cv_o hv) rfl ?_
      have hr_f_16v := cv_people hv hI
      refine pz_icmp_ge (off := 7) (t := 16) (by decide +kernel) (by decide) rfl rfl rfl (fun h5 => ?_) (fun h5 => ?_)
      · skip
        refine pe_iconstv (n := 0) (v := 0) (by decide +kernel) (by decide +kernel) ?_
        refine pe_iret (by decide +kernel) rfl rfl ⟨rfl, rfl, ?_⟩
        show pmE pg X pg_tyl pg_cl (d + 1) 154 44 [.ref 0, .int x1, .int x2, .int z3, .int x4, .int x5, .int z2] [.int 0] (cd f A R wr) _
        refine pz_if_eq (off := 13) (t := 57) (by decide +kernel) (by decide) rfl kz_0 (fun h6 => ?_) (fun h6 => by omega)
        refine pe_iconstv (n := 0) (v := 0) (by decide +kernel) (by decide +kernel) ?_
        exact pe_iret (by decide +kernel) rfl rfl (kr_0 A hI (fun k n86 => (hF k n86)))
      · skip
        refine pe_iconstv (n := 1) (v := 1) (by decide +kernel) (by decide +kernel) ?_
        refine pe_goto (off := 4) (t := 17) (by decide +kernel) (by decide) rfl ?_
        refine pe_iret (by decide +kernel) rfl rfl ⟨rfl, rfl, ?_⟩
        show pmE pg X pg_tyl pg_cl (d + 1) 154 44 [.ref 0, .int x1, .int x2, .int z3, .int x4, .int x5, .int z2] [.int 1] (cd f A R wr) _
        refine pz_if_eq (off := 13) (t := 57) (by decide +kernel) (by decide) rfl kz_1 (fun h7 => by omega) (fun h7 => ?_)
        refine pe_iload (j := 4) (by decide +kernel) rfl ?_
        refine pe_iload (j := 6) (by decide +kernel) rfl ?_
        refine pi_S (j := 294) (mj := 89) (by decide +kernel) (by decide +kernel) rfl ?_
        show pmE pg X pg_tyl pg_cl (d) 89 0 [.int x4, .int z2] [] (cd f A R wr) _
        refine pe_iload_n (j := 0) (by decide +kernel) rfl ?_
        refine pe_iload_n (j := 1) (by decide +kernel) rfl ?_
        refine pw_shr (by decide +kernel) (fun z8 => ?_)
        refine pe_iconstv (n := 1) (v := 1) (by decide +kernel) (by decide +kernel) ?_
        refine pz_and1 (by decide +kernel) (fun z9 hz9 => ?_)
        refine pz_if_eq (off := 7) (t := 12) (by decide +kernel) (by decide) rfl rfl (fun h10 => ?_) (fun h10 => ?_)
        · skip
          refine pe_iconstv (n := 0) (v := 0) (by decide +kernel) (by decide +kernel) ?_
          refine pe_iret (by decide +kernel) rfl rfl ⟨rfl, rfl, ?_⟩
          show pmE pg X pg_tyl pg_cl (d + 1) 154 54 [.ref 0, .int x1, .int x2, .int z3, .int x4, .int x5, .int z2] [.int 0] (cd f A R wr) _
          refine pz_if_eq (off := 5) (t := 59) (by decide +kernel) (by decide) rfl kz_0 (fun h11 => ?_) (fun h11 => by omega)
          refine pe_iload (j := 4) (by decide +kernel) rfl ?_
          refine pe_iconstv (n := 1) (v := 1) (by decide +kernel) (by decide +kernel) ?_
          refine pe_iload (j := 6) (by decide +kernel) rfl ?_
          refine pz_shl1 (by decide +kernel) rfl (by omega) (by omega) (fun z12 hz12 => ?_)
          refine pw_or (by decide +kernel) (fun z13 => ?_)
          refine pe_istore (j := 4) (ls' := [.ref 0, .int x1, .int x2, .int z3, .int z13, .int x5, .int z2]) (by decide +kernel) (Nat.le_of_ble_eq_true rfl) rfl ?_
          refine pe_aload_n (j := 0) (by decide +kernel) rfl ?_
          refine pe_get (j := 73) (ci := 11) (n := 10) (by decide +kernel) (by decide +kernel) cd_o0 rfl ?_
          refine pe_iload (j := 5) (by decide +kernel) rfl ?_
          refine pe_iload (j := 6) (by decide +kernel) rfl ?_
          refine cz_st86 (by decide +kernel) hI rfl (by omega) (by omega) (fun A14 eA14 hIA14 => ?_)
          refine pz_iinc (j := 5) (n := (-1)) (by decide +kernel) rfl rfl (by decide +kernel) (by omega) (by omega) (fun z15 hz15 => ?_)
          show pmE pg X pg_tyl pg_cl (d + 1) 154 80 [.ref 0, .int x1, .int x2, .int z3, .int z13, .int z15, .int z2] [] (cd f A14 R wr) _
          refine pe_goto (off := (-64)) (t := 16) (by decide +kernel) (by decide) rfl ?_
          exact ih A14 z3 z13 z15 (.int z2) hIA14 (fun k n86 => (upa_fr eA14 n86).trans ((hF k n86))) (by omega) (by omega) (by omega)
        · skip
          refine pe_iconstv (n := 1) (v := 1) (by decide +kernel) (by decide +kernel) ?_
          refine pe_goto (off := 4) (t := 13) (by decide +kernel) (by decide) rfl ?_
          refine pe_iret (by decide +kernel) rfl rfl ⟨rfl, rfl, ?_⟩
          show pmE pg X pg_tyl pg_cl (d + 1) 154 54 [.ref 0, .int x1, .int x2, .int z3, .int x4, .int x5, .int z2] [.int 1] (cd f A R wr) _
          refine pz_if_eq (off := 5) (t := 59) (by decide +kernel) (by decide) rfl kz_1 (fun h16 => by omega) (fun h16 => ?_)
          refine pe_iconstv (n := 0) (v := 0) (by decide +kernel) (by decide +kernel) ?_
          exact pe_iret (by decide +kernel) rfl rfl (kr_0 A hI (fun k n86 => (hF k n86)))
set_option maxRecDepth 100000 in
set_option maxHeartbeats 8000000 in
theorem CM_154 {X : pm_X} {d : Nat} {wr : pm_W} {f : Nat → Int32} {A : Nat → List Int32} {R : Nat → Value} {x1 x2 : Int32} {v : Nat} (hX : XO X) (hI : CI f A R) (hv : VV v) (hR0 : R 0 = .ref v) (gx1 : (2 ≤ x1.toInt ∧ x1.toInt ≤ 6)) : pmE pg X pg_tyl pg_cl (d + 1) 154 0 (pm_ent (pm_max pg 154) [.ref 0, .int x1, .int x2]) [] (cd f A R wr) (fun q => ∃ (A' : Nat → List Int32) (r : Int32), q = (some (.int r), cd f A' R wr, 0, 0) ∧ CI f A' R ∧ (∀ k : Nat, k ≠ 86 → A' k = A k) ∧ ((r = 0 ∧ True) ∨ (r = 1 ∧ (0 ≤ x2.toInt)))) := by
  have bv := VV_b hv
  show pmE pg X pg_tyl pg_cl (d + 1) 154 0 [.ref 0, .int x1, .int x2, pm_dead, pm_dead, pm_dead, pm_dead] [] (cd f A R wr) _
  refine pe_iload_n (j := 2) (by decide +kernel) rfl ?_
  have lw2 := zi_lo x2
  have uw2 := zi_hi x2
  refine pz_if_ge (off := 5) (t := 6) (by decide +kernel) (by decide) rfl rfl (fun h1 => ?_) (fun h1 => ?_)
  · skip
    refine pe_iload_n (j := 2) (by decide +kernel) rfl ?_
    refine pe_istore_n (j := 3) (ls' := [.ref 0, .int x1, .int x2, .int x2, pm_dead, pm_dead, pm_dead]) (by decide +kernel) (Nat.le_of_ble_eq_true rfl) rfl ?_
    refine pe_iconstv (n := 0) (v := 0) (by decide +kernel) (by decide +kernel) ?_
    refine pe_istore (j := 4) (ls' := [.ref 0, .int x1, .int x2, .int x2, .int 0, pm_dead, pm_dead]) (by decide +kernel) (Nat.le_of_ble_eq_true rfl) rfl ?_
    refine pe_iload_n (j := 1) (by decide +kernel) rfl ?_
    refine pe_iconstv (n := 1) (v := 1) (by decide +kernel) (by decide +kernel) ?_
    refine pz_sub (by decide +kernel) rfl kz_1 (by omega) (by omega) (fun z3 hz3 => ?_)
    refine pe_istore (j := 5) (ls' := [.ref 0, .int x1, .int x2, .int x2, .int 0, .int z3, pm_dead]) (by decide +kernel) (Nat.le_of_ble_eq_true rfl) rfl ?_
    refine CL_154_16 hX hv (hR0) (by omega) (by omega) (fun A4 y5 y6 y7 u8 hIy9 hFA4 gy5 gy7 => ?_) (fun A10 hIy11 hFA10 => ⟨A10, 0, rfl, hIy11, (fun k n86 => (hFA10 k n86)), Or.inl ⟨rfl, trivial⟩⟩) 7 A x2 0 z3 (pm_dead) hI (fun k _ => rfl) (by omega) (by omega) (by have l0 := zi_lo z3; have u0 := zi_hi z3; omega)
    refine pe_iload_n (j := 3) (by decide +kernel) rfl ?_
    have lw13 := zi_lo y5
    have uw13 := zi_hi y5
    refine pz_if_ne (off := 7) (t := 91) (by decide +kernel) (by decide) rfl rfl (fun h12 => ?_) (fun h12 => ?_)
    · skip
      refine pe_iconstv (n := 0) (v := 0) (by decide +kernel) (by decide +kernel) ?_
      exact pe_iret (by decide +kernel) rfl rfl ⟨A4, 0, rfl, hIy9, (fun k n86 => (hFA4 k n86)), Or.inl ⟨rfl, trivial⟩⟩
    · skip
      refine pe_iconstv (n := 1) (v := 1) (by decide +kernel) (by decide +kernel) ?_
      refine pe_goto (off := 4) (t := 92) (by decide +kernel) (by decide) rfl ?_
      exact pe_iret (by decide +kernel) rfl rfl ⟨A4, 1, rfl, hIy9, (fun k n86 => (hFA4 k n86)), Or.inr (⟨rfl, (by omega)⟩)⟩
  · skip
    refine pe_iconstv (n := 0) (v := 0) (by decide +kernel) (by decide +kernel) ?_
    exact pe_iret (by decide +kernel) rfl rfl ⟨A, 0, rfl, hI, (fun k n86 => rfl), Or.inl ⟨rfl, trivial⟩⟩
set_option maxRecDepth 100000 in
set_option maxHeartbeats 8000000 in
theorem CM_58 {X : pm_X} {d : Nat} {wr : pm_W} {f : Nat → Int32} {A : Nat → List Int32} {R : Nat → Value} {x1 : Int32} (hX : XO X) (hI : CI f A R) : pmE pg X pg_tyl pg_cl (d) 58 0 (pm_ent (pm_max pg 58) [.ref 0, .int x1]) [] (cd f A R wr) (fun q => ∃ (r : Int32), q = (some (.int r), cd f A R wr, 0, 0) ∧ ((True ∧ True))) := by
  show pmE pg X pg_tyl pg_cl (d) 58 0 [.ref 0, .int x1] [] (cd f A R wr) _
  refine pe_iload_n (j := 1) (by decide +kernel) rfl ?_
  have lw2 := zi_lo x1
  have uw2 := zi_hi x1
  refine pz_if_ne (off := 11) (t := 12) (by decide +kernel) (by decide) rfl rfl (fun h1 => ?_) (fun h1 => ?_)
  · skip
    refine pe_iload_n (j := 1) (by decide +kernel) rfl ?_
    refine pe_iconstv (n := 1) (v := 1) (by decide +kernel) (by decide +kernel) ?_
    refine pz_icmp_ne (off := 13) (t := 27) (by decide +kernel) (by decide) rfl rfl kz_1 (fun h3 => ?_) (fun h3 => ?_)
    · skip
      refine pe_iconstv (n := (-1)) (v := (-1)) (by decide +kernel) (by decide +kernel) ?_
      exact pe_iret (by decide +kernel) rfl rfl ⟨(-1), rfl, ⟨trivial, trivial⟩⟩
    · skip
      refine pe_aload_n (j := 0) (by decide +kernel) rfl ?_
      refine pe_get (j := 12) (ci := 11) (n := 0) (by decide +kernel) (by decide +kernel) cd_o0 rfl ?_
      refine pe_get (j := 88) (ci := 8) (n := 7) (by decide +kernel) (by decide +kernel) cd_o1 rfl ?_
      refine pe_goto (off := 4) (t := 28) (by decide +kernel) (by decide) rfl ?_
      exact pe_iret (by decide +kernel) rfl rfl ⟨(f 23), rfl, ⟨trivial, trivial⟩⟩
  · skip
    refine pe_aload_n (j := 0) (by decide +kernel) rfl ?_
    refine pe_get (j := 12) (ci := 11) (n := 0) (by decide +kernel) (by decide +kernel) cd_o0 rfl ?_
    refine pe_get (j := 85) (ci := 8) (n := 6) (by decide +kernel) (by decide +kernel) cd_o1 rfl ?_
    exact pe_iret (by decide +kernel) rfl rfl ⟨(f 22), rfl, ⟨trivial, trivial⟩⟩
set_option maxRecDepth 100000 in
set_option maxHeartbeats 8000000 in
theorem CM_59 {X : pm_X} {d : Nat} {wr : pm_W} {f : Nat → Int32} {A : Nat → List Int32} {R : Nat → Value} {x1 x2 : Int32} (hX : XO X) (hI : CI f A R) : pmE pg X pg_tyl pg_cl (d + 1) 59 0 (pm_ent (pm_max pg 59) [.ref 0, .int x1, .int x2]) [] (cd f A R wr) (fun q => ∃ (r : Int32), q = (some (.int r), cd f A R wr, 0, 0) ∧ ((True ∧ True))) := by
  show pmE pg X pg_tyl pg_cl (d + 1) 59 0 [.ref 0, .int x1, .int x2, pm_dead] [] (cd f A R wr) _
  refine pe_aload_n (j := 0) (by decide +kernel) rfl ?_
  refine pe_get (j := 12) (ci := 11) (n := 0) (by decide +kernel) (by decide +kernel) cd_o0 rfl ?_
  refine pe_iload_n (j := 1) (by decide +kernel) rfl ?_
  refine pz_callV (j := 111) (mj := 60) (by decide +kernel) (cll_V (args := [.int x1]) (n := 1) (by decide +kernel) rfl rfl cd_o1 (by decide +kernel) (Nat.le_of_ble_eq_true rfl) (Nat.le_of_ble_eq_true rfl)) (CM_atV hI) (fun q1a q1b q1c q1d hqq1 => ?_)
  obtain ⟨rq1, eq1, kq1⟩ := hqq1
  cases eq1
  rcases kq1 with rfl | ⟨v5, hv5, rfl⟩
  · skip
    refine ⟨rfl, rfl, ?_⟩
    show pmE pg X pg_tyl pg_cl (d + 1) 59 8 [.ref 0, .int x1, .int x2, pm_dead] [.null] (cd f A R wr) _
    refine pe_astoreN_n (j := 3) (ls' := [.ref 0, .int x1, .int x2, .null]) (by decide +kernel) (Nat.le_of_ble_eq_true rfl) rfl ?_
    refine pe_aloadN_n (j := 3) (by decide +kernel) rfl ?_
    refine pe_ifnonnullN (off := 5) (by decide +kernel) ?_
    refine pe_iconstv (n := (-1)) (v := (-1)) (by decide +kernel) (by decide +kernel) ?_
    exact pe_iret (by decide +kernel) rfl rfl ⟨(-1), rfl, ⟨trivial, trivial⟩⟩
  · skip
    have bv5 := VV_b hv5
    refine ⟨rfl, rfl, ?_⟩
    show pmE pg X pg_tyl pg_cl (d + 1) 59 8 [.ref 0, .int x1, .int x2, pm_dead] [.ref v5] (cd f A R wr) _
    refine pe_astore_n (j := 3) (ls' := [.ref 0, .int x1, .int x2, .ref v5]) (by decide +kernel) (Nat.le_of_ble_eq_true rfl) rfl ?_
    refine pe_aload_n (j := 3) (by decide +kernel) rfl ?_
    refine pe_ifnonnull (off := 5) (t := 15) (by decide +kernel) (by decide) rfl ?_
    refine pe_iload_n (j := 2) (by decide +kernel) rfl ?_
    have lw3 := zi_lo x2
    have uw3 := zi_hi x2
    refine pz_if_ne (off := 8) (t := 24) (by decide +kernel) (by decide) rfl rfl (fun h2 => ?_) (fun h2 => ?_)
    · skip
      refine pe_iload_n (j := 2) (by decide +kernel) rfl ?_
      refine pe_iconstv (n := 1) (v := 1) (by decide +kernel) (by decide +kernel) ?_
      refine pz_icmp_ne (off := 8) (t := 34) (by decide +kernel) (by decide) rfl rfl kz_1 (fun h4 => ?_) (fun h4 => ?_)
      · skip
        refine pe_iload_n (j := 2) (by decide +kernel) rfl ?_
        refine pe_iconstv (n := 2) (v := 2) (by decide +kernel) (by decide +kernel) ?_
        refine pz_icmp_ne (off := 8) (t := 44) (by decide +kernel) (by decide) rfl rfl kz_2 (fun h5 => ?_) (fun h5 => ?_)
        · skip
          refine pe_iload_n (j := 2) (by decide +kernel) rfl ?_
          refine pe_bipushv (n := 10) (v := 10) (by decide +kernel) (by decide +kernel) ?_
          refine pz_icmp_lt (off := 24) (t := 71) (by decide +kernel) (by decide) rfl rfl kz_10 (fun h6 => ?_) (fun h6 => ?_)
          · skip
            refine pe_iload_n (j := 2) (by decide +kernel) rfl ?_
            refine pe_bipushv (n := 20) (v := 20) (by decide +kernel) (by decide +kernel) ?_
            refine pz_icmp_lt (off := 24) (t := 98) (by decide +kernel) (by decide) rfl rfl kz_20 (fun h7 => ?_) (fun h7 => by omega)
            refine pe_iconstv (n := (-1)) (v := (-1)) (by decide +kernel) (by decide +kernel) ?_
            exact pe_iret (by decide +kernel) rfl rfl ⟨(-1), rfl, ⟨trivial, trivial⟩⟩
          · skip
            refine pe_aload_n (j := 3) (by decide +kernel) rfl ?_
            refine pe_iload_n (j := 2) (by decide +kernel) rfl ?_
            refine pe_bipushv (n := 10) (v := 10) (by decide +kernel) (by decide +kernel) ?_
            refine pz_sub (by decide +kernel) rfl kz_10 (by omega) (by omega) (fun z8 hz8 => ?_)
            refine pi_V (j := 126) (mj := 61) (by decide +kernel) (cll_V (args := [.int z8]) (n := 1) (by decide +kernel) rfl rfl (cv_o hv5) (by decide +kernel) (Nat.le_of_ble_eq_true rfl) (Nat.le_of_ble_eq_true rfl)) ?_
            show pmE pg X pg_tyl pg_cl (d) 61 0 [.ref v5, .int z8] [] (cd f A R wr) _
            refine pe_iload_n (j := 1) (by decide +kernel) rfl ?_
            refine pz_if_lt (off := 15) (t := 16) (by decide +kernel) (by decide) rfl hz8 (fun h9 => by omega) (fun h9 => ?_)
            refine pe_iload_n (j := 1) (by decide +kernel) rfl ?_
            refine pe_aload_n (j := 0) (by decide +kernel) rfl ?_
            refine pe_get (j := 9) (ci := 9) (n := 0) (by decide +kernel) (by decide +kernel) (cv_o hv5) rfl ?_
            have hr_f_16v5 := cv_people hv5 hI
            refine pz_icmp_ge (off := 7) (t := 16) (by decide +kernel) (by decide) rfl hz8 rfl (fun h10 => ?_) (fun h10 => ?_)
            · skip
              refine pe_iconstv (n := 0) (v := 0) (by decide +kernel) (by decide +kernel) ?_
              refine pe_iret (by decide +kernel) rfl rfl ⟨rfl, rfl, ?_⟩
              show pmE pg X pg_tyl pg_cl (d + 1) 59 58 [.ref 0, .int x1, .int x2, .ref v5] [.int 0] (cd f A R wr) _
              refine pz_if_eq (off := 13) (t := 71) (by decide +kernel) (by decide) rfl kz_0 (fun h11 => ?_) (fun h11 => by omega)
              refine pe_iload_n (j := 2) (by decide +kernel) rfl ?_
              refine pe_bipushv (n := 20) (v := 20) (by decide +kernel) (by decide +kernel) ?_
              refine pz_icmp_lt (off := 24) (t := 98) (by decide +kernel) (by decide) rfl rfl kz_20 (fun h12 => ?_) (fun h12 => ?_)
              · skip
                refine pe_iconstv (n := (-1)) (v := (-1)) (by decide +kernel) (by decide +kernel) ?_
                exact pe_iret (by decide +kernel) rfl rfl ⟨(-1), rfl, ⟨trivial, trivial⟩⟩
              · skip
                refine pe_aload_n (j := 3) (by decide +kernel) rfl ?_
                refine pe_iload_n (j := 2) (by decide +kernel) rfl ?_
                refine pe_bipushv (n := 20) (v := 20) (by decide +kernel) (by decide +kernel) ?_
                refine pz_sub (by decide +kernel) rfl kz_20 (by omega) (by omega) (fun z13 hz13 => ?_)
                refine pi_V (j := 126) (mj := 61) (by decide +kernel) (cll_V (args := [.int z13]) (n := 1) (by decide +kernel) rfl rfl (cv_o hv5) (by decide +kernel) (Nat.le_of_ble_eq_true rfl) (Nat.le_of_ble_eq_true rfl)) ?_
                show pmE pg X pg_tyl pg_cl (d) 61 0 [.ref v5, .int z13] [] (cd f A R wr) _
                refine pe_iload_n (j := 1) (by decide +kernel) rfl ?_
                refine pz_if_lt (off := 15) (t := 16) (by decide +kernel) (by decide) rfl hz13 (fun h14 => by omega) (fun h14 => ?_)
                refine pe_iload_n (j := 1) (by decide +kernel) rfl ?_
                refine pe_aload_n (j := 0) (by decide +kernel) rfl ?_
                refine pe_get (j := 9) (ci := 9) (n := 0) (by decide +kernel) (by decide +kernel) (cv_o hv5) rfl ?_
                refine pz_icmp_ge (off := 7) (t := 16) (by decide +kernel) (by decide) rfl hz13 rfl (fun h15 => ?_) (fun h15 => ?_)
                · skip
                  refine pe_iconstv (n := 0) (v := 0) (by decide +kernel) (by decide +kernel) ?_
                  refine pe_iret (by decide +kernel) rfl rfl ⟨rfl, rfl, ?_⟩
                  show pmE pg X pg_tyl pg_cl (d + 1) 59 85 [.ref 0, .int x1, .int x2, .ref v5] [.int 0] (cd f A R wr) _
                  refine pz_if_eq (off := 13) (t := 98) (by decide +kernel) (by decide) rfl kz_0 (fun h16 => ?_) (fun h16 => by omega)
                  refine pe_iconstv (n := (-1)) (v := (-1)) (by decide +kernel) (by decide +kernel) ?_
                  exact pe_iret (by decide +kernel) rfl rfl ⟨(-1), rfl, ⟨trivial, trivial⟩⟩
                · skip
                  refine pe_iconstv (n := 1) (v := 1) (by decide +kernel) (by decide +kernel) ?_
                  refine pe_goto (off := 4) (t := 17) (by decide +kernel) (by decide) rfl ?_
                  refine pe_iret (by decide +kernel) rfl rfl ⟨rfl, rfl, ?_⟩
                  show pmE pg X pg_tyl pg_cl (d + 1) 59 85 [.ref 0, .int x1, .int x2, .ref v5] [.int 1] (cd f A R wr) _
                  refine pz_if_eq (off := 13) (t := 98) (by decide +kernel) (by decide) rfl kz_1 (fun h17 => by omega) (fun h17 => ?_)
                  refine pe_aload_n (j := 3) (by decide +kernel) rfl ?_
                  refine pe_get (j := 133) (ci := 9) (n := 5) (by decide +kernel) (by decide +kernel) (cv_o hv5) rfl ?_
                  refine pe_iload_n (j := 2) (by decide +kernel) rfl ?_
                  refine pe_bipushv (n := 20) (v := 20) (by decide +kernel) (by decide +kernel) ?_
                  refine pz_sub (by decide +kernel) rfl kz_20 (by omega) (by omega) (fun z18 hz18 => ?_)
                  refine pz_iald (by decide +kernel) (cv_a3 hv5) (cv_l3 hv5 hI) hz18 (by omega) (by omega) (fun v19 ev19 => ?_)
                  clear hz18
                  exact pe_iret (by decide +kernel) rfl rfl ⟨v19, rfl, ⟨trivial, trivial⟩⟩
            · skip
              refine pe_iconstv (n := 1) (v := 1) (by decide +kernel) (by decide +kernel) ?_
              refine pe_goto (off := 4) (t := 17) (by decide +kernel) (by decide) rfl ?_
              refine pe_iret (by decide +kernel) rfl rfl ⟨rfl, rfl, ?_⟩
              show pmE pg X pg_tyl pg_cl (d + 1) 59 58 [.ref 0, .int x1, .int x2, .ref v5] [.int 1] (cd f A R wr) _
              refine pz_if_eq (off := 13) (t := 71) (by decide +kernel) (by decide) rfl kz_1 (fun h20 => by omega) (fun h20 => ?_)
              refine pe_aload_n (j := 3) (by decide +kernel) rfl ?_
              refine pe_get (j := 130) (ci := 9) (n := 4) (by decide +kernel) (by decide +kernel) (cv_o hv5) rfl ?_
              refine pe_iload_n (j := 2) (by decide +kernel) rfl ?_
              refine pe_bipushv (n := 10) (v := 10) (by decide +kernel) (by decide +kernel) ?_
              refine pz_sub (by decide +kernel) rfl kz_10 (by omega) (by omega) (fun z21 hz21 => ?_)
              refine pz_iald (by decide +kernel) (cv_a2 hv5) (cv_l2 hv5 hI) hz21 (by omega) (by omega) (fun v22 ev22 => ?_)
              clear hz21
              exact pe_iret (by decide +kernel) rfl rfl ⟨v22, rfl, ⟨trivial, trivial⟩⟩
        · skip
          refine pe_aload_n (j := 3) (by decide +kernel) rfl ?_
          refine pe_get (j := 123) (ci := 9) (n := 1) (by decide +kernel) (by decide +kernel) (cv_o hv5) rfl ?_
          exact pe_iret (by decide +kernel) rfl rfl ⟨(f (16 * v5 + 1)), rfl, ⟨trivial, trivial⟩⟩
      · skip
        refine pe_aload_n (j := 3) (by decide +kernel) rfl ?_
        refine pe_get (j := 120) (ci := 9) (n := 2) (by decide +kernel) (by decide +kernel) (cv_o hv5) rfl ?_
        have hr_f_16v52 := cv_wants hv5 hI
        exact pe_iret (by decide +kernel) rfl rfl ⟨(f (16 * v5 + 2)), rfl, ⟨trivial, trivial⟩⟩
    · skip
      refine pe_aload_n (j := 3) (by decide +kernel) rfl ?_
      refine pe_get (j := 115) (ci := 9) (n := 0) (by decide +kernel) (by decide +kernel) (cv_o hv5) rfl ?_
      have hr_f_16v5 := cv_people hv5 hI
      exact pe_iret (by decide +kernel) rfl rfl ⟨(f (16 * v5)), rfl, ⟨trivial, trivial⟩⟩
set_option maxRecDepth 100000 in
set_option maxHeartbeats 8000000 in
theorem CM_62 {X : pm_X} {d : Nat} {wr : pm_W} {f : Nat → Int32} {A : Nat → List Int32} {R : Nat → Value} {x1 x2 x3 : Int32} (hX : XO X) (hI : CI f A R) : pmE pg X pg_tyl pg_cl (d + 1) 62 0 (pm_ent (pm_max pg 62) [.ref 0, .int x1, .int x2, .int x3]) [] (cd f A R wr) (fun q => ∃ (r : Int32), q = (some (.int r), cd f A R wr, 0, 0) ∧ ((True ∧ True))) := by
  show pmE pg X pg_tyl pg_cl (d + 1) 62 0 [.ref 0, .int x1, .int x2, .int x3, pm_dead] [] (cd f A R wr) _
  refine pe_aload_n (j := 0) (by decide +kernel) rfl ?_
  refine pe_get (j := 12) (ci := 11) (n := 0) (by decide +kernel) (by decide +kernel) cd_o0 rfl ?_
  refine pe_iload_n (j := 1) (by decide +kernel) rfl ?_
  refine pz_callV (j := 111) (mj := 60) (by decide +kernel) (cll_V (args := [.int x1]) (n := 1) (by decide +kernel) rfl rfl cd_o1 (by decide +kernel) (Nat.le_of_ble_eq_true rfl) (Nat.le_of_ble_eq_true rfl)) (CM_atV hI) (fun q1a q1b q1c q1d hqq1 => ?_)
  obtain ⟨rq1, eq1, kq1⟩ := hqq1
  cases eq1
  rcases kq1 with rfl | ⟨v5, hv5, rfl⟩
  · skip
    refine ⟨rfl, rfl, ?_⟩
    show pmE pg X pg_tyl pg_cl (d + 1) 62 8 [.ref 0, .int x1, .int x2, .int x3, pm_dead] [.null] (cd f A R wr) _
    refine pe_astoreN (j := 4) (ls' := [.ref 0, .int x1, .int x2, .int x3, .null]) (by decide +kernel) (Nat.le_of_ble_eq_true rfl) rfl ?_
    refine pe_aloadN (j := 4) (by decide +kernel) rfl ?_
    refine pe_ifnullN (off := 21) (t := 33) (by decide +kernel) (by decide) rfl ?_
    refine pe_iconstv (n := (-1)) (v := (-1)) (by decide +kernel) (by decide +kernel) ?_
    exact pe_iret (by decide +kernel) rfl rfl ⟨(-1), rfl, ⟨trivial, trivial⟩⟩
  · skip
    have bv5 := VV_b hv5
    refine ⟨rfl, rfl, ?_⟩
    show pmE pg X pg_tyl pg_cl (d + 1) 62 8 [.ref 0, .int x1, .int x2, .int x3, pm_dead] [.ref v5] (cd f A R wr) _
    refine pe_astore (j := 4) (ls' := [.ref 0, .int x1, .int x2, .int x3, .ref v5]) (by decide +kernel) (Nat.le_of_ble_eq_true rfl) rfl ?_
    refine pe_aload (j := 4) (by decide +kernel) rfl ?_
    refine pe_ifnull (off := 21) (by decide +kernel) ?_
    refine pe_aload (j := 4) (by decide +kernel) rfl ?_
    refine pe_iload_n (j := 2) (by decide +kernel) rfl ?_
    refine pi_V (j := 126) (mj := 61) (by decide +kernel) (cll_V (args := [.int x2]) (n := 1) (by decide +kernel) rfl rfl (cv_o hv5) (by decide +kernel) (Nat.le_of_ble_eq_true rfl) (Nat.le_of_ble_eq_true rfl)) ?_
    show pmE pg X pg_tyl pg_cl (d) 61 0 [.ref v5, .int x2] [] (cd f A R wr) _
    refine pe_iload_n (j := 1) (by decide +kernel) rfl ?_
    have lw3 := zi_lo x2
    have uw3 := zi_hi x2
    refine pz_if_lt (off := 15) (t := 16) (by decide +kernel) (by decide) rfl rfl (fun h2 => ?_) (fun h2 => ?_)
    · skip
      refine pe_iconstv (n := 0) (v := 0) (by decide +kernel) (by decide +kernel) ?_
      refine pe_iret (by decide +kernel) rfl rfl ⟨rfl, rfl, ?_⟩
      show pmE pg X pg_tyl pg_cl (d + 1) 62 21 [.ref 0, .int x1, .int x2, .int x3, .ref v5] [.int 0] (cd f A R wr) _
      refine pz_if_eq (off := 12) (t := 33) (by decide +kernel) (by decide) rfl kz_0 (fun h4 => ?_) (fun h4 => by omega)
      refine pe_iconstv (n := (-1)) (v := (-1)) (by decide +kernel) (by decide +kernel) ?_
      exact pe_iret (by decide +kernel) rfl rfl ⟨(-1), rfl, ⟨trivial, trivial⟩⟩
    · skip
      refine pe_iload_n (j := 1) (by decide +kernel) rfl ?_
      refine pe_aload_n (j := 0) (by decide +kernel) rfl ?_
      refine pe_get (j := 9) (ci := 9) (n := 0) (by decide +kernel) (by decide +kernel) (cv_o hv5) rfl ?_
      have hr_f_16v5 := cv_people hv5 hI
      refine pz_icmp_ge (off := 7) (t := 16) (by decide +kernel) (by decide) rfl rfl rfl (fun h5 => ?_) (fun h5 => ?_)
      · skip
        refine pe_iconstv (n := 0) (v := 0) (by decide +kernel) (by decide +kernel) ?_
        refine pe_iret (by decide +kernel) rfl rfl ⟨rfl, rfl, ?_⟩
        show pmE pg X pg_tyl pg_cl (d + 1) 62 21 [.ref 0, .int x1, .int x2, .int x3, .ref v5] [.int 0] (cd f A R wr) _
        refine pz_if_eq (off := 12) (t := 33) (by decide +kernel) (by decide) rfl kz_0 (fun h6 => ?_) (fun h6 => by omega)
        refine pe_iconstv (n := (-1)) (v := (-1)) (by decide +kernel) (by decide +kernel) ?_
        exact pe_iret (by decide +kernel) rfl rfl ⟨(-1), rfl, ⟨trivial, trivial⟩⟩
      · skip
        refine pe_iconstv (n := 1) (v := 1) (by decide +kernel) (by decide +kernel) ?_
        refine pe_goto (off := 4) (t := 17) (by decide +kernel) (by decide) rfl ?_
        refine pe_iret (by decide +kernel) rfl rfl ⟨rfl, rfl, ?_⟩
        show pmE pg X pg_tyl pg_cl (d + 1) 62 21 [.ref 0, .int x1, .int x2, .int x3, .ref v5] [.int 1] (cd f A R wr) _
        refine pz_if_eq (off := 12) (t := 33) (by decide +kernel) (by decide) rfl kz_1 (fun h7 => by omega) (fun h7 => ?_)
        refine pe_aload (j := 4) (by decide +kernel) rfl ?_
        refine pe_iload_n (j := 3) (by decide +kernel) rfl ?_
        refine pi_V (j := 126) (mj := 61) (by decide +kernel) (cll_V (args := [.int x3]) (n := 1) (by decide +kernel) rfl rfl (cv_o hv5) (by decide +kernel) (Nat.le_of_ble_eq_true rfl) (Nat.le_of_ble_eq_true rfl)) ?_
        show pmE pg X pg_tyl pg_cl (d) 61 0 [.ref v5, .int x3] [] (cd f A R wr) _
        refine pe_iload_n (j := 1) (by decide +kernel) rfl ?_
        have lw9 := zi_lo x3
        have uw9 := zi_hi x3
        refine pz_if_lt (off := 15) (t := 16) (by decide +kernel) (by decide) rfl rfl (fun h8 => ?_) (fun h8 => ?_)
        · skip
          refine pe_iconstv (n := 0) (v := 0) (by decide +kernel) (by decide +kernel) ?_
          refine pe_iret (by decide +kernel) rfl rfl ⟨rfl, rfl, ?_⟩
          show pmE pg X pg_tyl pg_cl (d + 1) 62 30 [.ref 0, .int x1, .int x2, .int x3, .ref v5] [.int 0] (cd f A R wr) _
          refine pz_if_ne (off := 5) (t := 35) (by decide +kernel) (by decide) rfl kz_0 (fun h10 => by omega) (fun h10 => ?_)
          refine pe_iconstv (n := (-1)) (v := (-1)) (by decide +kernel) (by decide +kernel) ?_
          exact pe_iret (by decide +kernel) rfl rfl ⟨(-1), rfl, ⟨trivial, trivial⟩⟩
        · skip
          refine pe_iload_n (j := 1) (by decide +kernel) rfl ?_
          refine pe_aload_n (j := 0) (by decide +kernel) rfl ?_
          refine pe_get (j := 9) (ci := 9) (n := 0) (by decide +kernel) (by decide +kernel) (cv_o hv5) rfl ?_
          refine pz_icmp_ge (off := 7) (t := 16) (by decide +kernel) (by decide) rfl rfl rfl (fun h11 => ?_) (fun h11 => ?_)
          · skip
            refine pe_iconstv (n := 0) (v := 0) (by decide +kernel) (by decide +kernel) ?_
            refine pe_iret (by decide +kernel) rfl rfl ⟨rfl, rfl, ?_⟩
            show pmE pg X pg_tyl pg_cl (d + 1) 62 30 [.ref 0, .int x1, .int x2, .int x3, .ref v5] [.int 0] (cd f A R wr) _
            refine pz_if_ne (off := 5) (t := 35) (by decide +kernel) (by decide) rfl kz_0 (fun h12 => by omega) (fun h12 => ?_)
            refine pe_iconstv (n := (-1)) (v := (-1)) (by decide +kernel) (by decide +kernel) ?_
            exact pe_iret (by decide +kernel) rfl rfl ⟨(-1), rfl, ⟨trivial, trivial⟩⟩
          · skip
            refine pe_iconstv (n := 1) (v := 1) (by decide +kernel) (by decide +kernel) ?_
            refine pe_goto (off := 4) (t := 17) (by decide +kernel) (by decide) rfl ?_
            refine pe_iret (by decide +kernel) rfl rfl ⟨rfl, rfl, ?_⟩
            show pmE pg X pg_tyl pg_cl (d + 1) 62 30 [.ref 0, .int x1, .int x2, .int x3, .ref v5] [.int 1] (cd f A R wr) _
            refine pz_if_ne (off := 5) (t := 35) (by decide +kernel) (by decide) rfl kz_1 (fun h13 => ?_) (fun h13 => by omega)
            refine pe_aload (j := 4) (by decide +kernel) rfl ?_
            refine pe_get (j := 136) (ci := 9) (n := 3) (by decide +kernel) (by decide +kernel) (cv_o hv5) rfl ?_
            refine pe_iload_n (j := 2) (by decide +kernel) rfl ?_
            refine pe_iload_n (j := 3) (by decide +kernel) rfl ?_
            refine pi_S (j := 139) (mj := 52) (by decide +kernel) (by decide +kernel) rfl ?_
            show pmE pg X pg_tyl pg_cl (d) 52 0 [.int x2, .int x3] [] (cd f A R wr) _
            refine pe_iload_n (j := 0) (by decide +kernel) rfl ?_
            refine pe_bipushv (n := 9) (v := 9) (by decide +kernel) (by decide +kernel) ?_
            refine pz_mul (by decide +kernel) rfl kz_9 (by omega) (by omega) (fun z14 hz14 => ?_)
            refine pe_iload_n (j := 1) (by decide +kernel) rfl ?_
            refine pz_add (by decide +kernel) hz14 rfl (by omega) (by omega) (fun z15 hz15 => ?_)
            clear hz14
            refine pe_iret (by decide +kernel) rfl rfl ⟨rfl, rfl, ?_⟩
            show pmE pg X pg_tyl pg_cl (d + 1) 62 45 [.ref 0, .int x1, .int x2, .int x3, .ref v5] [.int z15, .ref (v5 + 1)] (cd f A R wr) _
            refine pz_iald (by decide +kernel) (cv_a1 hv5) (cv_l1 hv5 hI) hz15 (by omega) (by omega) (fun v16 ev16 => ?_)
            clear hz15
            exact pe_iret (by decide +kernel) rfl rfl ⟨v16, rfl, ⟨trivial, trivial⟩⟩
end
section
set_option maxRecDepth 100000 in
set_option maxHeartbeats 8000000 in
theorem CM_63 {X : pm_X} {d : Nat} {wr : pm_W} {f : Nat → Int32} {A : Nat → List Int32} {R : Nat → Value} {x1 x2 x3 : Int32} (hX : XO X) (hI : CI f A R) : pmE pg X pg_tyl pg_cl (d + 1) 63 0 (pm_ent (pm_max pg 63) [.ref 0, .int x1, .int x2, .int x3]) [] (cd f A R wr) (fun q => ∃ (r : Int32), q = (some (.int r), cd f A R wr, 0, 0) ∧ ((True ∧ True))) := by
  show pmE pg X pg_tyl pg_cl (d + 1) 63 0 [.ref 0, .int x1, .int x2, .int x3, pm_dead] [] (cd f A R wr) _
  refine pe_aload_n (j := 0) (by decide +kernel) rfl ?_
  refine pe_get (j := 12) (ci := 11) (n := 0) (by decide +kernel) (by decide +kernel) cd_o0 rfl ?_
  refine pe_iload_n (j := 1) (by decide +kernel) rfl ?_
  refine pz_callV (j := 111) (mj := 60) (by decide +kernel) (cll_V (args := [.int x1]) (n := 1) (by decide +kernel) rfl rfl cd_o1 (by decide +kernel) (Nat.le_of_ble_eq_true rfl) (Nat.le_of_ble_eq_true rfl)) (CM_atV hI) (fun q1a q1b q1c q1d hqq1 => ?_)
  obtain ⟨rq1, eq1, kq1⟩ := hqq1
  cases eq1
  rcases kq1 with rfl | ⟨v5, hv5, rfl⟩
  · skip
    refine ⟨rfl, rfl, ?_⟩
    show pmE pg X pg_tyl pg_cl (d + 1) 63 8 [.ref 0, .int x1, .int x2, .int x3, pm_dead] [.null] (cd f A R wr) _
    refine pe_astoreN (j := 4) (ls' := [.ref 0, .int x1, .int x2, .int x3, .null]) (by decide +kernel) (Nat.le_of_ble_eq_true rfl) rfl ?_
    refine pe_aloadN (j := 4) (by decide +kernel) rfl ?_
    refine pe_ifnullN (off := 21) (t := 33) (by decide +kernel) (by decide) rfl ?_
    refine pe_iconstv (n := (-1)) (v := (-1)) (by decide +kernel) (by decide +kernel) ?_
    exact pe_iret (by decide +kernel) rfl rfl ⟨(-1), rfl, ⟨trivial, trivial⟩⟩
  · skip
    have bv5 := VV_b hv5
    refine ⟨rfl, rfl, ?_⟩
    show pmE pg X pg_tyl pg_cl (d + 1) 63 8 [.ref 0, .int x1, .int x2, .int x3, pm_dead] [.ref v5] (cd f A R wr) _
    refine pe_astore (j := 4) (ls' := [.ref 0, .int x1, .int x2, .int x3, .ref v5]) (by decide +kernel) (Nat.le_of_ble_eq_true rfl) rfl ?_
    refine pe_aload (j := 4) (by decide +kernel) rfl ?_
    refine pe_ifnull (off := 21) (by decide +kernel) ?_
    refine pe_aload (j := 4) (by decide +kernel) rfl ?_
    refine pe_iload_n (j := 2) (by decide +kernel) rfl ?_
    refine pi_V (j := 142) (mj := 64) (by decide +kernel) (cll_V (args := [.int x2]) (n := 1) (by decide +kernel) rfl rfl (cv_o hv5) (by decide +kernel) (Nat.le_of_ble_eq_true rfl) (Nat.le_of_ble_eq_true rfl)) ?_
    show pmE pg X pg_tyl pg_cl (d) 64 0 [.ref v5, .int x2] [] (cd f A R wr) _
    refine pe_iload_n (j := 1) (by decide +kernel) rfl ?_
    have lw3 := zi_lo x2
    have uw3 := zi_hi x2
    refine pz_if_lt (off := 15) (t := 16) (by decide +kernel) (by decide) rfl rfl (fun h2 => ?_) (fun h2 => ?_)
    · skip
      refine pe_iconstv (n := 0) (v := 0) (by decide +kernel) (by decide +kernel) ?_
      refine pe_iret (by decide +kernel) rfl rfl ⟨rfl, rfl, ?_⟩
      show pmE pg X pg_tyl pg_cl (d + 1) 63 21 [.ref 0, .int x1, .int x2, .int x3, .ref v5] [.int 0] (cd f A R wr) _
      refine pz_if_eq (off := 12) (t := 33) (by decide +kernel) (by decide) rfl kz_0 (fun h4 => ?_) (fun h4 => by omega)
      refine pe_iconstv (n := (-1)) (v := (-1)) (by decide +kernel) (by decide +kernel) ?_
      exact pe_iret (by decide +kernel) rfl rfl ⟨(-1), rfl, ⟨trivial, trivial⟩⟩
    · skip
      refine pe_iload_n (j := 1) (by decide +kernel) rfl ?_
      refine pe_aload_n (j := 0) (by decide +kernel) rfl ?_
      refine pe_get (j := 31) (ci := 9) (n := 2) (by decide +kernel) (by decide +kernel) (cv_o hv5) rfl ?_
      have hr_f_16v52 := cv_wants hv5 hI
      refine pz_icmp_ge (off := 7) (t := 16) (by decide +kernel) (by decide) rfl rfl rfl (fun h5 => ?_) (fun h5 => ?_)
      · skip
        refine pe_iconstv (n := 0) (v := 0) (by decide +kernel) (by decide +kernel) ?_
        refine pe_iret (by decide +kernel) rfl rfl ⟨rfl, rfl, ?_⟩
        show pmE pg X pg_tyl pg_cl (d + 1) 63 21 [.ref 0, .int x1, .int x2, .int x3, .ref v5] [.int 0] (cd f A R wr) _
        refine pz_if_eq (off := 12) (t := 33) (by decide +kernel) (by decide) rfl kz_0 (fun h6 => ?_) (fun h6 => by omega)
        refine pe_iconstv (n := (-1)) (v := (-1)) (by decide +kernel) (by decide +kernel) ?_
        exact pe_iret (by decide +kernel) rfl rfl ⟨(-1), rfl, ⟨trivial, trivial⟩⟩
      · skip
        refine pe_iconstv (n := 1) (v := 1) (by decide +kernel) (by decide +kernel) ?_
        refine pe_goto (off := 4) (t := 17) (by decide +kernel) (by decide) rfl ?_
        refine pe_iret (by decide +kernel) rfl rfl ⟨rfl, rfl, ?_⟩
        show pmE pg X pg_tyl pg_cl (d + 1) 63 21 [.ref 0, .int x1, .int x2, .int x3, .ref v5] [.int 1] (cd f A R wr) _
        refine pz_if_eq (off := 12) (t := 33) (by decide +kernel) (by decide) rfl kz_1 (fun h7 => by omega) (fun h7 => ?_)
        refine pe_iload_n (j := 3) (by decide +kernel) rfl ?_
        have lw9 := zi_lo x3
        have uw9 := zi_hi x3
        refine pz_if_lt (off := 8) (t := 33) (by decide +kernel) (by decide) rfl rfl (fun h8 => ?_) (fun h8 => ?_)
        · skip
          refine pe_iconstv (n := (-1)) (v := (-1)) (by decide +kernel) (by decide +kernel) ?_
          exact pe_iret (by decide +kernel) rfl rfl ⟨(-1), rfl, ⟨trivial, trivial⟩⟩
        · skip
          refine pe_iload_n (j := 3) (by decide +kernel) rfl ?_
          refine pe_iconstv (n := 4) (v := 4) (by decide +kernel) (by decide +kernel) ?_
          refine pz_icmp_lt (off := 5) (t := 35) (by decide +kernel) (by decide) rfl rfl kz_4 (fun h10 => ?_) (fun h10 => ?_)
          · skip
            refine pe_aload (j := 4) (by decide +kernel) rfl ?_
            refine pe_iload_n (j := 2) (by decide +kernel) rfl ?_
            refine pe_iload_n (j := 3) (by decide +kernel) rfl ?_
            refine pi_V (j := 145) (mj := 65) (by decide +kernel) (cll_V (args := [.int x3, .int x2]) (n := 2) (by decide +kernel) rfl rfl (cv_o hv5) (by decide +kernel) (Nat.le_of_ble_eq_true rfl) (Nat.le_of_ble_eq_true rfl)) ?_
            show pmE pg X pg_tyl pg_cl (d) 65 0 [.ref v5, .int x2, .int x3] [] (cd f A R wr) _
            refine pe_aload_n (j := 0) (by decide +kernel) rfl ?_
            refine pe_get (j := 25) (ci := 9) (n := 6) (by decide +kernel) (by decide +kernel) (cv_o hv5) rfl ?_
            refine pe_iload_n (j := 1) (by decide +kernel) rfl ?_
            refine pe_iconstv (n := 4) (v := 4) (by decide +kernel) (by decide +kernel) ?_
            refine pz_mul (by decide +kernel) rfl kz_4 (by omega) (by omega) (fun z11 hz11 => ?_)
            refine pe_iload_n (j := 2) (by decide +kernel) rfl ?_
            refine pz_add (by decide +kernel) hz11 rfl (by omega) (by omega) (fun z12 hz12 => ?_)
            clear hz11
            refine pz_iald (by decide +kernel) (cv_a4 hv5) (cv_l4 hv5 hI) hz12 (by omega) (by omega) (fun v13 ev13 => ?_)
            clear hz12
            refine pe_iret (by decide +kernel) rfl rfl ⟨rfl, rfl, ?_⟩
            show pmE pg X pg_tyl pg_cl (d + 1) 63 42 [.ref 0, .int x1, .int x2, .int x3, .ref v5] [.int v13] (cd f A R wr) _
            exact pe_iret (by decide +kernel) rfl rfl ⟨v13, rfl, ⟨trivial, trivial⟩⟩
          · skip
            refine pe_iconstv (n := (-1)) (v := (-1)) (by decide +kernel) (by decide +kernel) ?_
            exact pe_iret (by decide +kernel) rfl rfl ⟨(-1), rfl, ⟨trivial, trivial⟩⟩
set_option maxRecDepth 100000 in
set_option maxHeartbeats 8000000 in
theorem CM_66 {X : pm_X} {d : Nat} {wr : pm_W} {f : Nat → Int32} {A : Nat → List Int32} {R : Nat → Value} {x1 x2 x3 : Int32} (hX : XO X) (hI : CI f A R) : pmE pg X pg_tyl pg_cl (d + 1) 66 0 (pm_ent (pm_max pg 66) [.ref 0, .int x1, .int x2, .int x3]) [] (cd f A R wr) (fun q => ∃ (r : Int32), q = (some (.int r), cd f A R wr, 0, 0) ∧ ((True ∧ True))) := by
  show pmE pg X pg_tyl pg_cl (d + 1) 66 0 [.ref 0, .int x1, .int x2, .int x3, pm_dead] [] (cd f A R wr) _
  refine pe_aload_n (j := 0) (by decide +kernel) rfl ?_
  refine pe_get (j := 12) (ci := 11) (n := 0) (by decide +kernel) (by decide +kernel) cd_o0 rfl ?_
  refine pe_iload_n (j := 1) (by decide +kernel) rfl ?_
  refine pz_callV (j := 148) (mj := 67) (by decide +kernel) (cll_V (args := [.int x1]) (n := 1) (by decide +kernel) rfl rfl cd_o1 (by decide +kernel) (Nat.le_of_ble_eq_true rfl) (Nat.le_of_ble_eq_true rfl)) (CM_atR hI) (fun q1a q1b q1c q1d hqq1 => ?_)
  obtain ⟨rq1, eq1, kq1⟩ := hqq1
  cases eq1
  rcases kq1 with rfl | ⟨rw5, hrw5, rfl⟩
  · skip
    refine ⟨rfl, rfl, ?_⟩
    show pmE pg X pg_tyl pg_cl (d + 1) 66 8 [.ref 0, .int x1, .int x2, .int x3, pm_dead] [.null] (cd f A R wr) _
    refine pe_astoreN (j := 4) (ls' := [.ref 0, .int x1, .int x2, .int x3, .null]) (by decide +kernel) (Nat.le_of_ble_eq_true rfl) rfl ?_
    refine pe_aloadN (j := 4) (by decide +kernel) rfl ?_
    refine pe_ifnonnullN (off := 6) (by decide +kernel) ?_
    refine pe_bipushv (n := (-2)) (v := (-2)) (by decide +kernel) (by decide +kernel) ?_
    exact pe_iret (by decide +kernel) rfl rfl ⟨(-2), rfl, ⟨trivial, trivial⟩⟩
  · skip
    have brw5 := RR_b hrw5
    refine ⟨rfl, rfl, ?_⟩
    show pmE pg X pg_tyl pg_cl (d + 1) 66 8 [.ref 0, .int x1, .int x2, .int x3, pm_dead] [.ref rw5] (cd f A R wr) _
    refine pe_astore (j := 4) (ls' := [.ref 0, .int x1, .int x2, .int x3, .ref rw5]) (by decide +kernel) (Nat.le_of_ble_eq_true rfl) rfl ?_
    refine pe_aload (j := 4) (by decide +kernel) rfl ?_
    refine pe_ifnonnull (off := 6) (t := 18) (by decide +kernel) (by decide) rfl ?_
    refine pe_iload_n (j := 2) (by decide +kernel) rfl ?_
    refine pe_iconstv (n := (-1)) (v := (-1)) (by decide +kernel) (by decide +kernel) ?_
    have lw3 := zi_lo x2
    have uw3 := zi_hi x2
    refine pz_icmp_ne (off := 18) (t := 38) (by decide +kernel) (by decide) rfl rfl kz_m1 (fun h2 => ?_) (fun h2 => ?_)
    · skip
      refine pe_iload_n (j := 2) (by decide +kernel) rfl ?_
      refine pz_if_lt (off := 22) (t := 61) (by decide +kernel) (by decide) rfl rfl (fun h4 => ?_) (fun h4 => ?_)
      · skip
        refine pe_bipushv (n := (-2)) (v := (-2)) (by decide +kernel) (by decide +kernel) ?_
        exact pe_iret (by decide +kernel) rfl rfl ⟨(-2), rfl, ⟨trivial, trivial⟩⟩
      · skip
        refine pe_iload_n (j := 2) (by decide +kernel) rfl ?_
        refine pe_aload (j := 4) (by decide +kernel) rfl ?_
        refine pe_get (j := 152) (ci := 5) (n := 0) (by decide +kernel) (by decide +kernel) (cr_o hrw5) rfl ?_
        have hr_f_16rw5 := cr_acts hrw5 hI
        refine pz_icmp_ge (off := 13) (t := 61) (by decide +kernel) (by decide) rfl rfl rfl (fun h5 => ?_) (fun h5 => ?_)
        · skip
          refine pe_bipushv (n := (-2)) (v := (-2)) (by decide +kernel) (by decide +kernel) ?_
          exact pe_iret (by decide +kernel) rfl rfl ⟨(-2), rfl, ⟨trivial, trivial⟩⟩
        · skip
          refine pe_iload_n (j := 3) (by decide +kernel) rfl ?_
          have lw7 := zi_lo x3
          have uw7 := zi_hi x3
          refine pz_if_lt (off := 9) (t := 61) (by decide +kernel) (by decide) rfl rfl (fun h6 => ?_) (fun h6 => ?_)
          · skip
            refine pe_bipushv (n := (-2)) (v := (-2)) (by decide +kernel) (by decide +kernel) ?_
            exact pe_iret (by decide +kernel) rfl rfl ⟨(-2), rfl, ⟨trivial, trivial⟩⟩
          · skip
            refine pe_iload_n (j := 3) (by decide +kernel) rfl ?_
            refine pe_bipushv (n := 9) (v := 9) (by decide +kernel) (by decide +kernel) ?_
            refine pz_icmp_lt (off := 6) (t := 64) (by decide +kernel) (by decide) rfl rfl kz_9 (fun h8 => ?_) (fun h8 => ?_)
            · skip
              refine pe_aload (j := 4) (by decide +kernel) rfl ?_
              refine pe_iload_n (j := 2) (by decide +kernel) rfl ?_
              refine pe_iload_n (j := 3) (by decide +kernel) rfl ?_
              refine pi_V (j := 157) (mj := 68) (by decide +kernel) (cll_V (args := [.int x3, .int x2]) (n := 2) (by decide +kernel) rfl rfl (cr_o hrw5) (by decide +kernel) (Nat.le_of_ble_eq_true rfl) (Nat.le_of_ble_eq_true rfl)) ?_
              show pmE pg X pg_tyl pg_cl (d) 68 0 [.ref rw5, .int x2, .int x3] [] (cd f A R wr) _
              refine pe_aload_n (j := 0) (by decide +kernel) rfl ?_
              refine pe_get (j := 9) (ci := 5) (n := 1) (by decide +kernel) (by decide +kernel) (cr_o hrw5) rfl ?_
              refine pe_iload_n (j := 1) (by decide +kernel) rfl ?_
              refine pe_bipushv (n := 9) (v := 9) (by decide +kernel) (by decide +kernel) ?_
              refine pz_mul (by decide +kernel) rfl kz_9 (by omega) (by omega) (fun z9 hz9 => ?_)
              refine pe_iload_n (j := 2) (by decide +kernel) rfl ?_
              refine pz_add (by decide +kernel) hz9 rfl (by omega) (by omega) (fun z10 hz10 => ?_)
              clear hz9
              refine pz_iald (by decide +kernel) (cr_a1 hrw5) (cr_l1 hrw5 hI) hz10 (by omega) (by omega) (fun v11 ev11 => ?_)
              clear hz10
              refine pe_iret (by decide +kernel) rfl rfl ⟨rfl, rfl, ?_⟩
              show pmE pg X pg_tyl pg_cl (d + 1) 66 71 [.ref 0, .int x1, .int x2, .int x3, .ref rw5] [.int v11] (cd f A R wr) _
              exact pe_iret (by decide +kernel) rfl rfl ⟨v11, rfl, ⟨trivial, trivial⟩⟩
            · skip
              refine pe_bipushv (n := (-2)) (v := (-2)) (by decide +kernel) (by decide +kernel) ?_
              exact pe_iret (by decide +kernel) rfl rfl ⟨(-2), rfl, ⟨trivial, trivial⟩⟩
    · skip
      refine pe_iload_n (j := 3) (by decide +kernel) rfl ?_
      have lw13 := zi_lo x3
      have uw13 := zi_hi x3
      refine pz_if_ne (off := 11) (t := 35) (by decide +kernel) (by decide) rfl rfl (fun h12 => ?_) (fun h12 => ?_)
      · skip
        refine pe_bipushv (n := (-2)) (v := (-2)) (by decide +kernel) (by decide +kernel) ?_
        exact pe_iret (by decide +kernel) rfl rfl ⟨(-2), rfl, ⟨trivial, trivial⟩⟩
      · skip
        refine pe_aload (j := 4) (by decide +kernel) rfl ?_
        refine pe_get (j := 152) (ci := 5) (n := 0) (by decide +kernel) (by decide +kernel) (cr_o hrw5) rfl ?_
        have hr_f_16rw5 := cr_acts hrw5 hI
        refine pe_goto (off := 5) (t := 37) (by decide +kernel) (by decide) rfl ?_
        exact pe_iret (by decide +kernel) rfl rfl ⟨(f (16 * rw5)), rfl, ⟨trivial, trivial⟩⟩
set_option maxRecDepth 100000 in
set_option maxHeartbeats 8000000 in
theorem CM_69 {X : pm_X} {d : Nat} {wr : pm_W} {f : Nat → Int32} {A : Nat → List Int32} {R : Nat → Value} {x1 : Int32} (hX : XO X) (hI : CI f A R) : pmE pg X pg_tyl pg_cl (d) 69 0 (pm_ent (pm_max pg 69) [.ref 0, .int x1]) [] (cd f A R wr) (fun q => ∃ (r : Int32), q = (some (.int r), cd f A R wr, 0, 0) ∧ ((((-2) ≤ r.toInt ∧ r.toInt ≤ 3) ∧ True))) := by
  show pmE pg X pg_tyl pg_cl (d) 69 0 [.ref 0, .int x1] [] (cd f A R wr) _
  refine pe_iload_n (j := 1) (by decide +kernel) rfl ?_
  have lw2 := zi_lo x1
  have uw2 := zi_hi x1
  refine pz_if_ne (off := 11) (t := 12) (by decide +kernel) (by decide) rfl rfl (fun h1 => ?_) (fun h1 => ?_)
  · skip
    refine pe_iload_n (j := 1) (by decide +kernel) rfl ?_
    refine pe_iconstv (n := 1) (v := 1) (by decide +kernel) (by decide +kernel) ?_
    refine pz_icmp_ne (off := 13) (t := 27) (by decide +kernel) (by decide) rfl rfl kz_1 (fun h3 => ?_) (fun h3 => ?_)
    · skip
      refine pe_bipushv (n := (-2)) (v := (-2)) (by decide +kernel) (by decide +kernel) ?_
      exact pe_iret (by decide +kernel) rfl rfl ⟨(-2), rfl, ⟨(by decide +kernel), trivial⟩⟩
    · skip
      refine pe_aload_n (j := 0) (by decide +kernel) rfl ?_
      refine pe_get (j := 12) (ci := 11) (n := 0) (by decide +kernel) (by decide +kernel) cd_o0 rfl ?_
      refine pe_get (j := 163) (ci := 8) (n := 3) (by decide +kernel) (by decide +kernel) cd_o1 rfl ?_
      have hr_f_19 := cf_19 hI
      refine pe_goto (off := 5) (t := 29) (by decide +kernel) (by decide) rfl ?_
      exact pe_iret (by decide +kernel) rfl rfl ⟨(f 19), rfl, ⟨(by omega), trivial⟩⟩
  · skip
    refine pe_aload_n (j := 0) (by decide +kernel) rfl ?_
    refine pe_get (j := 12) (ci := 11) (n := 0) (by decide +kernel) (by decide +kernel) cd_o0 rfl ?_
    refine pe_get (j := 160) (ci := 8) (n := 2) (by decide +kernel) (by decide +kernel) cd_o1 rfl ?_
    have hr_f_18 := cf_18 hI
    exact pe_iret (by decide +kernel) rfl rfl ⟨(f 18), rfl, ⟨(by omega), trivial⟩⟩
set_option maxRecDepth 100000 in
set_option maxHeartbeats 8000000 in
theorem CL_73_41 {X : pm_X} {d : Nat} {wr : pm_W} {Q : pm_R → Prop} {f0 : Nat → Int32} {A0 : Nat → List Int32} {R : Nat → Value} {x1 x2 : Int32} {v5 : Nat} {rw14 : Nat} (hX : XO X) (hv5 : VV v5) (hrw14 : RR rw14) (hR0 : R 0 = .ref v5) (k_74_0 : ∀ (f' : Nat → Int32) (A' : Nat → List Int32) (y5 : Int32), CI f' A' R → (∀ k : Nat, k ≠ 529 → k ≠ 530 → f' k = f0 k) → (∀ k : Nat, k ≠ 39 → k ≠ 40 → k ≠ 41 → A' k = A0 k) → (0 ≤ y5.toInt ∧ y5.toInt ≤ 30) → pmE pg X pg_tyl pg_cl (d + 5) 73 74 [.ref 0, .int x1, .int x2, .ref v5, .ref rw14, .int y5] [] (cd f' A' R wr) Q) (kr_v : ∀ (f' : Nat → Int32) (A' : Nat → List Int32) (r : Int32), CI f' A' R → (∀ k : Nat, k ≠ 529 → k ≠ 530 → f' k = f0 k) → (∀ k : Nat, k ≠ 39 → k ≠ 40 → k ≠ 41 → A' k = A0 k) → (0 ≤ r.toInt ∧ r.toInt ≤ 29) → Q (some (.int r), cd f' A' R wr, 0, 0)) : ∀ (m : Nat) (f : Nat → Int32) (A : Nat → List Int32) (x5 : Int32), CI f A R → (∀ k : Nat, k ≠ 529 → k ≠ 530 → f k = f0 k) → (∀ k : Nat, k ≠ 39 → k ≠ 40 → k ≠ 41 → A k = A0 k) → (0 ≤ x5.toInt ∧ x5.toInt ≤ 30) → 30 - x5.toInt < (m : Int) → pmE pg X pg_tyl pg_cl (d + 5) 73 41 [.ref 0, .int x1, .int x2, .ref v5, .ref rw14, .int x5] [] (cd f A R wr) Q := by
  have bv5 := VV_b hv5
  have brw14 := RR_b hrw14
  intro m
  induction m with
  | zero =>
    intro f A x5 hI hG hF gx5 hm
    exfalso
    have l0 := zi_lo x5
    have u0 := zi_hi x5
    omega
  | succ m ih =>
    intro f A x5 hI hG hF gx5 hm
    refine pe_iload (j := 5) (by decide +kernel) rfl ?_
    refine pe_aload (j := 4) (by decide +kernel) rfl ?_
    refine pe_get (j := 152) (ci := 5) (n := 0) (by decide +kernel) (by decide +kernel) (cr_o hrw14) rfl ?_
    have hr_f_16rw14 := cr_acts hrw14 hI
    refine pz_icmp_ge (off := 26) (t := 74) (by decide +kernel) (by decide) rfl rfl rfl (fun h1 => ?_) (fun h1 => ?_)
    · skip
      exact k_74_0 f A x5 hI (fun k n529 n530 => (hG k n529 n530)) (fun k n39 n40 n41 => (hF k n39 n40 n41)) (by omega)
    · skip
      refine pe_aload_n (j := 0) (by decide +kernel) rfl ?_
      refine pe_get (j := 34) (ci := 11) (n := 4) (by decide +kernel) (by decide +kernel) cd_o0 rfl ?_
      refine pe_aload (j := 4) (by decide +kernel) rfl ?_
      refine pe_iload (j := 5) (by decide +kernel) rfl ?_
      refine pz_callV (j := 174) (mj := 75) (by decide +kernel) (cll_V (args := [.int x5, .ref rw14]) (n := 2) (by decide +kernel) rfl rfl cd_o33 (by decide +kernel) (Nat.le_of_ble_eq_true rfl) (Nat.le_of_ble_eq_true rfl)) (CM_75 hX hI hv5 hrw14 (hR0) (by omega)) (fun q2a q2b q2c q2d hqq2 => ?_)
      obtain ⟨f3, A4, rq2, eq2, hIq2, hGq2, hFq2, kq2⟩ := hqq2
      cases eq2
      refine ⟨rfl, rfl, ?_⟩
      rcases kq2 with kq2 | kq2
      · skip
        obtain ⟨erq2, kq2⟩ := kq2
        subst erq2
        show pmE pg X pg_tyl pg_cl (d + 5) 73 62 [.ref 0, .int x1, .int x2, .ref v5, .ref rw14, .int x5] [.int 0] (cd f3 A4 R wr) _
        refine pz_if_ne (off := 6) (t := 68) (by decide +kernel) (by decide) rfl kz_0 (fun h5 => by omega) (fun h5 => ?_)
        refine pe_iload (j := 5) (by decide +kernel) rfl ?_
        exact pe_iret (by decide +kernel) rfl rfl (kr_v f3 A4 x5 hIq2 (fun k n529 n530 => ((hGq2 k n529 n530)).trans ((hG k n529 n530))) (fun k n39 n40 n41 => ((hFq2 k n39 n40 n41)).trans ((hF k n39 n40 n41))) (by omega))
      · skip
        obtain ⟨erq2, kq2⟩ := kq2
        subst erq2
        show pmE pg X pg_tyl pg_cl (d + 5) 73 62 [.ref 0, .int x1, .int x2, .ref v5, .ref rw14, .int x5] [.int 1] (cd f3 A4 R wr) _
        refine pz_if_ne (off := 6) (t := 68) (by decide +kernel) (by decide) rfl kz_1 (fun h6 => ?_) (fun h6 => by omega)
        refine pz_iinc (j := 5) (n := 1) (by decide +kernel) rfl rfl (by decide +kernel) (by omega) (by omega) (fun z7 hz7 => ?_)
        show pmE pg X pg_tyl pg_cl (d + 5) 73 71 [.ref 0, .int x1, .int x2, .ref v5, .ref rw14, .int z7] [] (cd f3 A4 R wr) _
        refine pe_goto (off := (-30)) (t := 41) (by decide +kernel) (by decide) rfl ?_
        exact ih f3 A4 z7 hIq2 (fun k n529 n530 => ((hGq2 k n529 n530)).trans ((hG k n529 n530))) (fun k n39 n40 n41 => ((hFq2 k n39 n40 n41)).trans ((hF k n39 n40 n41))) (by omega) (by omega)
set_option maxRecDepth 100000 in
set_option maxHeartbeats 8000000 in
theorem CM_73 {X : pm_X} {d : Nat} {wr : pm_W} {f : Nat → Int32} {A : Nat → List Int32} {R : Nat → Value} {x1 x2 : Int32} (hX : XO X) (hI : CI f A R) : pmE pg X pg_tyl pg_cl (d + 5) 73 0 (pm_ent (pm_max pg 73) [.ref 0, .int x1, .int x2]) [] (cd f A R wr) (fun q => ∃ (f' : Nat → Int32) (A' : Nat → List Int32) (R' : Nat → Value) (r : Int32), q = (some (.int r), cd f' A' R' wr, 0, 0) ∧ CI f' A' R' ∧ (∀ k : Nat, k ≠ 529 → k ≠ 530 → f' k = f k) ∧ (∀ k : Nat, k ≠ 39 → k ≠ 40 → k ≠ 41 → A' k = A k) ∧ (∀ k : Nat, k ≠ 0 → R' k = R k) ∧ ((((-1) ≤ r.toInt ∧ r.toInt ≤ 30) ∧ True))) := by
  show pmE pg X pg_tyl pg_cl (d + 5) 73 0 [.ref 0, .int x1, .int x2, pm_dead, pm_dead, pm_dead] [] (cd f A R wr) _
  refine pe_aload_n (j := 0) (by decide +kernel) rfl ?_
  refine pe_get (j := 12) (ci := 11) (n := 0) (by decide +kernel) (by decide +kernel) cd_o0 rfl ?_
  refine pe_iload_n (j := 1) (by decide +kernel) rfl ?_
  refine pz_callV (j := 111) (mj := 60) (by decide +kernel) (cll_V (args := [.int x1]) (n := 1) (by decide +kernel) rfl rfl cd_o1 (by decide +kernel) (Nat.le_of_ble_eq_true rfl) (Nat.le_of_ble_eq_true rfl)) (CM_atV hI) (fun q1a q1b q1c q1d hqq1 => ?_)
  obtain ⟨rq1, eq1, kq1⟩ := hqq1
  cases eq1
  rcases kq1 with rfl | ⟨v5, hv5, rfl⟩
  · skip
    refine ⟨rfl, rfl, ?_⟩
    show pmE pg X pg_tyl pg_cl (d + 5) 73 8 [.ref 0, .int x1, .int x2, pm_dead, pm_dead, pm_dead] [.null] (cd f A R wr) _
    refine pe_astoreN_n (j := 3) (ls' := [.ref 0, .int x1, .int x2, .null, pm_dead, pm_dead]) (by decide +kernel) (Nat.le_of_ble_eq_true rfl) rfl ?_
    refine pe_aload_n (j := 0) (by decide +kernel) rfl ?_
    refine pe_get (j := 12) (ci := 11) (n := 0) (by decide +kernel) (by decide +kernel) cd_o0 rfl ?_
    refine pe_iload_n (j := 2) (by decide +kernel) rfl ?_
    refine pz_callV (j := 148) (mj := 67) (by decide +kernel) (cll_V (args := [.int x2]) (n := 1) (by decide +kernel) rfl rfl cd_o1 (by decide +kernel) (Nat.le_of_ble_eq_true rfl) (Nat.le_of_ble_eq_true rfl)) (CM_atR hI) (fun q2a q2b q2c q2d hqq2 => ?_)
    obtain ⟨rq2, eq2, kq2⟩ := hqq2
    cases eq2
    rcases kq2 with rfl | ⟨rw14, hrw14, rfl⟩
    · skip
      refine ⟨rfl, rfl, ?_⟩
      show pmE pg X pg_tyl pg_cl (d + 5) 73 17 [.ref 0, .int x1, .int x2, .null, pm_dead, pm_dead] [.null] (cd f A R wr) _
      refine pe_astoreN (j := 4) (ls' := [.ref 0, .int x1, .int x2, .null, .null, pm_dead]) (by decide +kernel) (Nat.le_of_ble_eq_true rfl) rfl ?_
      refine pe_aloadN_n (j := 3) (by decide +kernel) rfl ?_
      refine pe_ifnullN (off := 8) (t := 28) (by decide +kernel) (by decide) rfl ?_
      refine pe_iconstv (n := (-1)) (v := (-1)) (by decide +kernel) (by decide +kernel) ?_
      exact pe_iret (by decide +kernel) rfl rfl ⟨f, A, R, (-1), rfl, hI, (fun k n529 n530 => rfl), (fun k n39 n40 n41 => rfl), (fun k n0 => rfl), ⟨(by decide +kernel), trivial⟩⟩
    · skip
      have brw14 := RR_b hrw14
      refine ⟨rfl, rfl, ?_⟩
      show pmE pg X pg_tyl pg_cl (d + 5) 73 17 [.ref 0, .int x1, .int x2, .null, pm_dead, pm_dead] [.ref rw14] (cd f A R wr) _
      refine pe_astore (j := 4) (ls' := [.ref 0, .int x1, .int x2, .null, .ref rw14, pm_dead]) (by decide +kernel) (Nat.le_of_ble_eq_true rfl) rfl ?_
      refine pe_aloadN_n (j := 3) (by decide +kernel) rfl ?_
      refine pe_ifnullN (off := 8) (t := 28) (by decide +kernel) (by decide) rfl ?_
      refine pe_iconstv (n := (-1)) (v := (-1)) (by decide +kernel) (by decide +kernel) ?_
      exact pe_iret (by decide +kernel) rfl rfl ⟨f, A, R, (-1), rfl, hI, (fun k n529 n530 => rfl), (fun k n39 n40 n41 => rfl), (fun k n0 => rfl), ⟨(by decide +kernel), trivial⟩⟩
  · skip
    have bv5 := VV_b hv5
    refine ⟨rfl, rfl, ?_⟩
    show pmE pg X pg_tyl pg_cl (d + 5) 73 8 [.ref 0, .int x1, .int x2, pm_dead, pm_dead, pm_dead] [.ref v5] (cd f A R wr) _
    refine pe_astore_n (j := 3) (ls' := [.ref 0, .int x1, .int x2, .ref v5, pm_dead, pm_dead]) (by decide +kernel) (Nat.le_of_ble_eq_true rfl) rfl ?_
    refine pe_aload_n (j := 0) (by decide +kernel) rfl ?_
    refine pe_get (j := 12) (ci := 11) (n := 0) (by decide +kernel) (by decide +kernel) cd_o0 rfl ?_
    refine pe_iload_n (j := 2) (by decide +kernel) rfl ?_
    refine pz_callV (j := 148) (mj := 67) (by decide +kernel) (cll_V (args := [.int x2]) (n := 1) (by decide +kernel) rfl rfl cd_o1 (by decide +kernel) (Nat.le_of_ble_eq_true rfl) (Nat.le_of_ble_eq_true rfl)) (CM_atR hI) (fun q3a q3b q3c q3d hqq3 => ?_)
    obtain ⟨rq3, eq3, kq3⟩ := hqq3
    cases eq3
    rcases kq3 with rfl | ⟨rw14, hrw14, rfl⟩
    · skip
      refine ⟨rfl, rfl, ?_⟩
      show pmE pg X pg_tyl pg_cl (d + 5) 73 17 [.ref 0, .int x1, .int x2, .ref v5, pm_dead, pm_dead] [.null] (cd f A R wr) _
      refine pe_astoreN (j := 4) (ls' := [.ref 0, .int x1, .int x2, .ref v5, .null, pm_dead]) (by decide +kernel) (Nat.le_of_ble_eq_true rfl) rfl ?_
      refine pe_aload_n (j := 3) (by decide +kernel) rfl ?_
      refine pe_ifnull (off := 8) (by decide +kernel) ?_
      refine pe_aloadN (j := 4) (by decide +kernel) rfl ?_
      refine pe_ifnonnullN (off := 5) (by decide +kernel) ?_
      refine pe_iconstv (n := (-1)) (v := (-1)) (by decide +kernel) (by decide +kernel) ?_
      exact pe_iret (by decide +kernel) rfl rfl ⟨f, A, R, (-1), rfl, hI, (fun k n529 n530 => rfl), (fun k n39 n40 n41 => rfl), (fun k n0 => rfl), ⟨(by decide +kernel), trivial⟩⟩
    · skip
      have brw14 := RR_b hrw14
      refine ⟨rfl, rfl, ?_⟩
      show pmE pg X pg_tyl pg_cl (d + 5) 73 17 [.ref 0, .int x1, .int x2, .ref v5, pm_dead, pm_dead] [.ref rw14] (cd f A R wr) _
      refine pe_astore (j := 4) (ls' := [.ref 0, .int x1, .int x2, .ref v5, .ref rw14, pm_dead]) (by decide +kernel) (Nat.le_of_ble_eq_true rfl) rfl ?_
      refine pe_aload_n (j := 3) (by decide +kernel) rfl ?_
      refine pe_ifnull (off := 8) (by decide +kernel) ?_
      refine pe_aload (j := 4) (by decide +kernel) rfl ?_
      refine pe_ifnonnull (off := 5) (t := 30) (by decide +kernel) (by decide) rfl ?_
      refine pe_aload_n (j := 0) (by decide +kernel) rfl ?_
      refine pe_get (j := 34) (ci := 11) (n := 4) (by decide +kernel) (by decide +kernel) cd_o0 rfl ?_
      refine pe_aload_n (j := 3) (by decide +kernel) rfl ?_
      refine pi_V (j := 170) (mj := 74) (by decide +kernel) (cll_V (args := [.ref v5]) (n := 1) (by decide +kernel) rfl rfl cd_o33 (by decide +kernel) (Nat.le_of_ble_eq_true rfl) (Nat.le_of_ble_eq_true rfl)) ?_
      show pmE pg X pg_tyl pg_cl (d + 4) 74 0 [.ref 33, .ref v5] [] (cd f A R wr) _
      refine pe_aload_n (j := 0) (by decide +kernel) rfl ?_
      refine pe_aload_n (j := 1) (by decide +kernel) rfl ?_
      refine cz_putR0 (jj := 12) (ty := (.object "RingVillage$Village")) (by decide +kernel) (by decide +kernel) hI pm_fit_obj ⟨_, rfl⟩ (fun R4 eR4 hIR4 => ?_)
      refine pe_aload_n (j := 0) (by decide +kernel) rfl ?_
      refine pe_iconstv (n := 0) (v := 0) (by decide +kernel) (by decide +kernel) ?_
      refine cz_put529 (jj := 28) (by decide +kernel) (by decide +kernel) hIR4 (fun f5 ef5 hIf5 => ?_)
      refine pe_aload_n (j := 0) (by decide +kernel) rfl ?_
      refine pe_iconstv (n := 0) (v := 0) (by decide +kernel) (by decide +kernel) ?_
      refine cz_put530 (jj := 32) (by decide +kernel) (by decide +kernel) hIf5 (by decide +kernel) (by decide +kernel) (fun f6 ef6 hIf6 => ?_)
      refine pe_aload_n (j := 0) (by decide +kernel) rfl ?_
      refine pe_get (j := 18) (ci := 7) (n := 3) (by decide +kernel) (by decide +kernel) cd_o33 rfl ?_
      refine pe_iconstv (n := 0) (v := 0) (by decide +kernel) (by decide +kernel) ?_
      refine cz_fill (j := 35) (k := 39) (n := 81) (by decide +kernel) (by decide +kernel) rfl cd_a39 (fun _ => cd_s39) hIf6 (cl_39 hIf6) (by decide +kernel) (ct_no (by decide +kernel)) (fun A7 eA7 hIA7 => ?_)
      refine pe_vret (by decide +kernel) rfl ⟨rfl, rfl, ?_⟩
      show pmE pg X pg_tyl pg_cl (d + 5) 73 38 [.ref 0, .int x1, .int x2, .ref v5, .ref rw14, pm_dead] [] (cd f6 A7 R4 wr) _
      refine pe_iconstv (n := 0) (v := 0) (by decide +kernel) (by decide +kernel) ?_
      refine pe_istore (j := 5) (ls' := [.ref 0, .int x1, .int x2, .ref v5, .ref rw14, .int 0]) (by decide +kernel) (Nat.le_of_ble_eq_true rfl) rfl ?_
      refine CL_73_41 hX hv5 hrw14 (upr_at eR4) (fun f8 A9 y10 hIy11 hGf8 hFA9 gy10 => ?_) (fun f12 A13 r14 hIy15 hGf12 hFA13 gr14 => ⟨f12, A13, R4, r14, rfl, hIy15, (fun k n529 n530 => ((hGf12 k n529 n530)).trans ((upf_fr ef6 n530).trans (upf_fr ef5 n529))), (fun k n39 n40 n41 => ((hFA13 k n39 n40 n41)).trans (upa_fr eA7 n39)), (fun k n0 => upr_fr eR4 n0), ⟨(by omega), trivial⟩⟩) 31 f6 A7 0 hIA7 (fun k _ _ => rfl) (fun k _ _ _ => rfl) (by decide +kernel) (by decide +kernel)
      refine pe_aload (j := 4) (by decide +kernel) rfl ?_
      refine pe_get (j := 152) (ci := 5) (n := 0) (by decide +kernel) (by decide +kernel) (cr_o hrw14) rfl ?_
      have hr_f_16rw14 := cr_acts hrw14 hI
      refine pe_top (v := (f (16 * rw14))) (((hGf8 (16 * rw14) (by omega) (by omega))).trans ((upf_fr ef6 (by omega)).trans (upf_fr ef5 (by omega)))) ?_
      exact pe_iret (by decide +kernel) rfl rfl ⟨f8, A9, R4, (f (16 * rw14)), rfl, hIy11, (fun k n529 n530 => ((hGf8 k n529 n530)).trans ((upf_fr ef6 n530).trans (upf_fr ef5 n529))), (fun k n39 n40 n41 => ((hFA9 k n39 n40 n41)).trans (upa_fr eA7 n39)), (fun k n0 => upr_fr eR4 n0), ⟨(by omega), trivial⟩⟩
set_option maxRecDepth 100000 in
set_option maxHeartbeats 8000000 in
theorem CL_91_41 {X : pm_X} {d : Nat} {wr : pm_W} {Q : pm_R → Prop} {f0 : Nat → Int32} {A0 : Nat → List Int32} {R : Nat → Value} {x1 x2 : Int32} {v5 : Nat} {rw14 : Nat} (hX : XO X) (hv5 : VV v5) (hrw14 : RR rw14) (hR0 : R 0 = .ref v5) (k_86_0 : ∀ (f' : Nat → Int32) (A' : Nat → List Int32) (y5 : Int32), CI f' A' R → (∀ k : Nat, k ≠ 529 → k ≠ 530 → f' k = f0 k) → (∀ k : Nat, k ≠ 39 → k ≠ 40 → k ≠ 41 → A' k = A0 k) → (0 ≤ y5.toInt ∧ y5.toInt ≤ 30) → pmE pg X pg_tyl pg_cl (d + 5) 91 86 [.ref 0, .int x1, .int x2, .ref v5, .ref rw14, .int y5] [] (cd f' A' R wr) Q) (kr_v : ∀ (f' : Nat → Int32) (A' : Nat → List Int32) (r : Int32), CI f' A' R → (∀ k : Nat, k ≠ 529 → k ≠ 530 → f' k = f0 k) → (∀ k : Nat, k ≠ 39 → k ≠ 40 → k ≠ 41 → A' k = A0 k) → (0 ≤ r.toInt ∧ r.toInt ≤ 29) → Q (some (.int r), cd f' A' R wr, 0, 0)) (kr_m1 : ∀ (f' : Nat → Int32) (A' : Nat → List Int32), CI f' A' R → (∀ k : Nat, k ≠ 529 → k ≠ 530 → f' k = f0 k) → (∀ k : Nat, k ≠ 39 → k ≠ 40 → k ≠ 41 → A' k = A0 k) → Q (some (.int (-1)), cd f' A' R wr, 0, 0)) : ∀ (m : Nat) (f : Nat → Int32) (A : Nat → List Int32) (x5 : Int32), CI f A R → (∀ k : Nat, k ≠ 529 → k ≠ 530 → f k = f0 k) → (∀ k : Nat, k ≠ 39 → k ≠ 40 → k ≠ 41 → A k = A0 k) → (0 ≤ x5.toInt ∧ x5.toInt ≤ 30) → 30 - x5.toInt < (m : Int) → pmE pg X pg_tyl pg_cl (d + 5) 91 41 [.ref 0, .int x1, .int x2, .ref v5, .ref rw14, .int x5] [] (cd f A R wr) Q := by
  have bv5 := VV_b hv5
  have brw14 := RR_b hrw14
  intro m
  induction m with
  | zero =>
    intro f A x5 hI hG hF gx5 hm
    exfalso
    have l0 := zi_lo x5
    have u0 := zi_hi x5
    omega
  | succ m ih =>
    intro f A x5 hI hG hF gx5 hm
    refine pe_iload (j := 5) (by decide +kernel) rfl ?_
    refine pe_aload (j := 4) (by decide +kernel) rfl ?_
    refine pe_get (j := 152) (ci := 5) (n := 0) (by decide +kernel) (by decide +kernel) (cr_o hrw14) rfl ?_
    have hr_f_16rw14 := cr_acts hrw14 hI
    refine pz_icmp_ge (off := 38) (t := 86) (by decide +kernel) (by decide) rfl rfl rfl (fun h1 => ?_) (fun h1 => ?_)
    · skip
      exact k_86_0 f A x5 hI (fun k n529 n530 => (hG k n529 n530)) (fun k n39 n40 n41 => (hF k n39 n40 n41)) (by omega)
    · skip
      refine pe_aload_n (j := 0) (by decide +kernel) rfl ?_
      refine pe_get (j := 34) (ci := 11) (n := 4) (by decide +kernel) (by decide +kernel) cd_o0 rfl ?_
      refine pe_aload (j := 4) (by decide +kernel) rfl ?_
      refine pe_iload (j := 5) (by decide +kernel) rfl ?_
      refine pz_callV (j := 174) (mj := 75) (by decide +kernel) (cll_V (args := [.int x5, .ref rw14]) (n := 2) (by decide +kernel) rfl rfl cd_o33 (by decide +kernel) (Nat.le_of_ble_eq_true rfl) (Nat.le_of_ble_eq_true rfl)) (CM_75 hX hI hv5 hrw14 (hR0) (by omega)) (fun q2a q2b q2c q2d hqq2 => ?_)
      obtain ⟨f3, A4, rq2, eq2, hIq2, hGq2, hFq2, kq2⟩ := hqq2
      cases eq2
      refine ⟨rfl, rfl, ?_⟩
      rcases kq2 with kq2 | kq2
      · skip
        obtain ⟨erq2, kq2⟩ := kq2
        subst erq2
        show pmE pg X pg_tyl pg_cl (d + 5) 91 62 [.ref 0, .int x1, .int x2, .ref v5, .ref rw14, .int x5] [.int 0] (cd f3 A4 R wr) _
        refine pz_if_ne (off := 5) (t := 67) (by decide +kernel) (by decide) rfl kz_0 (fun h5 => by omega) (fun h5 => ?_)
        refine pe_iconstv (n := (-1)) (v := (-1)) (by decide +kernel) (by decide +kernel) ?_
        exact pe_iret (by decide +kernel) rfl rfl (kr_m1 f3 A4 hIq2 (fun k n529 n530 => ((hGq2 k n529 n530)).trans ((hG k n529 n530))) (fun k n39 n40 n41 => ((hFq2 k n39 n40 n41)).trans ((hF k n39 n40 n41))))
      · skip
        obtain ⟨erq2, kq2⟩ := kq2
        subst erq2
        show pmE pg X pg_tyl pg_cl (d + 5) 91 62 [.ref 0, .int x1, .int x2, .ref v5, .ref rw14, .int x5] [.int 1] (cd f3 A4 R wr) _
        refine pz_if_ne (off := 5) (t := 67) (by decide +kernel) (by decide) rfl kz_1 (fun h6 => ?_) (fun h6 => by omega)
        refine pe_aload_n (j := 0) (by decide +kernel) rfl ?_
        refine pe_get (j := 34) (ci := 11) (n := 4) (by decide +kernel) (by decide +kernel) cd_o0 rfl ?_
        refine pz_callV (j := 178) (mj := 92) (by decide +kernel) (cll_V (args := []) (n := 0) (by decide +kernel) rfl rfl cd_o33 (by decide +kernel) (Nat.le_of_ble_eq_true rfl) (Nat.le_of_ble_eq_true rfl)) (CM_92 hX hIq2 hv5 (hR0)) (fun q7a q7b q7c q7d hqq7 => ?_)
        obtain ⟨rq7, eq7, kq7⟩ := hqq7
        cases eq7
        refine ⟨rfl, rfl, ?_⟩
        rcases kq7 with kq7 | kq7
        · skip
          obtain ⟨erq7, kq7⟩ := kq7
          subst erq7
          show pmE pg X pg_tyl pg_cl (d + 5) 91 74 [.ref 0, .int x1, .int x2, .ref v5, .ref rw14, .int x5] [.int 0] (cd f3 A4 R wr) _
          refine pz_if_ne (off := 6) (t := 80) (by decide +kernel) (by decide) rfl kz_0 (fun h8 => by omega) (fun h8 => ?_)
          refine pe_iload (j := 5) (by decide +kernel) rfl ?_
          exact pe_iret (by decide +kernel) rfl rfl (kr_v f3 A4 x5 hIq2 (fun k n529 n530 => ((hGq2 k n529 n530)).trans ((hG k n529 n530))) (fun k n39 n40 n41 => ((hFq2 k n39 n40 n41)).trans ((hF k n39 n40 n41))) (by omega))
        · skip
          obtain ⟨erq7, kq7⟩ := kq7
          subst erq7
          show pmE pg X pg_tyl pg_cl (d + 5) 91 74 [.ref 0, .int x1, .int x2, .ref v5, .ref rw14, .int x5] [.int 1] (cd f3 A4 R wr) _
          refine pz_if_ne (off := 6) (t := 80) (by decide +kernel) (by decide) rfl kz_1 (fun h9 => ?_) (fun h9 => by omega)
          refine pz_iinc (j := 5) (n := 1) (by decide +kernel) rfl rfl (by decide +kernel) (by omega) (by omega) (fun z10 hz10 => ?_)
          show pmE pg X pg_tyl pg_cl (d + 5) 91 83 [.ref 0, .int x1, .int x2, .ref v5, .ref rw14, .int z10] [] (cd f3 A4 R wr) _
          refine pe_goto (off := (-42)) (t := 41) (by decide +kernel) (by decide) rfl ?_
          exact ih f3 A4 z10 hIq2 (fun k n529 n530 => ((hGq2 k n529 n530)).trans ((hG k n529 n530))) (fun k n39 n40 n41 => ((hFq2 k n39 n40 n41)).trans ((hF k n39 n40 n41))) (by omega) (by omega)
set_option maxRecDepth 100000 in
set_option maxHeartbeats 8000000 in
theorem CM_91 {X : pm_X} {d : Nat} {wr : pm_W} {f : Nat → Int32} {A : Nat → List Int32} {R : Nat → Value} {x1 x2 : Int32} (hX : XO X) (hI : CI f A R) : pmE pg X pg_tyl pg_cl (d + 5) 91 0 (pm_ent (pm_max pg 91) [.ref 0, .int x1, .int x2]) [] (cd f A R wr) (fun q => ∃ (f' : Nat → Int32) (A' : Nat → List Int32) (R' : Nat → Value) (r : Int32), q = (some (.int r), cd f' A' R' wr, 0, 0) ∧ CI f' A' R' ∧ (∀ k : Nat, k ≠ 529 → k ≠ 530 → f' k = f k) ∧ (∀ k : Nat, k ≠ 39 → k ≠ 40 → k ≠ 41 → A' k = A k) ∧ (∀ k : Nat, k ≠ 0 → R' k = R k) ∧ ((((-1) ≤ r.toInt ∧ r.toInt ≤ 29) ∧ True))) := by
  show pmE pg X pg_tyl pg_cl (d + 5) 91 0 [.ref 0, .int x1, .int x2, pm_dead, pm_dead, pm_dead] [] (cd f A R wr) _
  refine pe_aload_n (j := 0) (by decide +kernel) rfl ?_
  refine pe_get (j := 12) (ci := 11) (n := 0) (by decide +kernel) (by decide +kernel) cd_o0 rfl ?_
  refine pe_iload_n (j := 1) (by decide +kernel) rfl ?_
  refine pz_callV (j := 111) (mj := 60) (by decide +kernel) (cll_V (args := [.int x1]) (n := 1) (by decide +kernel) rfl rfl cd_o1 (by decide +kernel) (Nat.le_of_ble_eq_true rfl) (Nat.le_of_ble_eq_true rfl)) (CM_atV hI) (fun q1a q1b q1c q1d hqq1 => ?_)
  obtain ⟨rq1, eq1, kq1⟩ := hqq1
  cases eq1
  rcases kq1 with rfl | ⟨v5, hv5, rfl⟩
  · skip
    refine ⟨rfl, rfl, ?_⟩
    show pmE pg X pg_tyl pg_cl (d + 5) 91 8 [.ref 0, .int x1, .int x2, pm_dead, pm_dead, pm_dead] [.null] (cd f A R wr) _
    refine pe_astoreN_n (j := 3) (ls' := [.ref 0, .int x1, .int x2, .null, pm_dead, pm_dead]) (by decide +kernel) (Nat.le_of_ble_eq_true rfl) rfl ?_
    refine pe_aload_n (j := 0) (by decide +kernel) rfl ?_
    refine pe_get (j := 12) (ci := 11) (n := 0) (by decide +kernel) (by decide +kernel) cd_o0 rfl ?_
    refine pe_iload_n (j := 2) (by decide +kernel) rfl ?_
    refine pz_callV (j := 148) (mj := 67) (by decide +kernel) (cll_V (args := [.int x2]) (n := 1) (by decide +kernel) rfl rfl cd_o1 (by decide +kernel) (Nat.le_of_ble_eq_true rfl) (Nat.le_of_ble_eq_true rfl)) (CM_atR hI) (fun q2a q2b q2c q2d hqq2 => ?_)
    obtain ⟨rq2, eq2, kq2⟩ := hqq2
    cases eq2
    rcases kq2 with rfl | ⟨rw14, hrw14, rfl⟩
    · skip
      refine ⟨rfl, rfl, ?_⟩
      show pmE pg X pg_tyl pg_cl (d + 5) 91 17 [.ref 0, .int x1, .int x2, .null, pm_dead, pm_dead] [.null] (cd f A R wr) _
      refine pe_astoreN (j := 4) (ls' := [.ref 0, .int x1, .int x2, .null, .null, pm_dead]) (by decide +kernel) (Nat.le_of_ble_eq_true rfl) rfl ?_
      refine pe_aloadN_n (j := 3) (by decide +kernel) rfl ?_
      refine pe_ifnullN (off := 8) (t := 28) (by decide +kernel) (by decide) rfl ?_
      refine pe_iconstv (n := (-1)) (v := (-1)) (by decide +kernel) (by decide +kernel) ?_
      exact pe_iret (by decide +kernel) rfl rfl ⟨f, A, R, (-1), rfl, hI, (fun k n529 n530 => rfl), (fun k n39 n40 n41 => rfl), (fun k n0 => rfl), ⟨(by decide +kernel), trivial⟩⟩
    · skip
      have brw14 := RR_b hrw14
      refine ⟨rfl, rfl, ?_⟩
      show pmE pg X pg_tyl pg_cl (d + 5) 91 17 [.ref 0, .int x1, .int x2, .null, pm_dead, pm_dead] [.ref rw14] (cd f A R wr) _
      refine pe_astore (j := 4) (ls' := [.ref 0, .int x1, .int x2, .null, .ref rw14, pm_dead]) (by decide +kernel) (Nat.le_of_ble_eq_true rfl) rfl ?_
      refine pe_aloadN_n (j := 3) (by decide +kernel) rfl ?_
      refine pe_ifnullN (off := 8) (t := 28) (by decide +kernel) (by decide) rfl ?_
      refine pe_iconstv (n := (-1)) (v := (-1)) (by decide +kernel) (by decide +kernel) ?_
      exact pe_iret (by decide +kernel) rfl rfl ⟨f, A, R, (-1), rfl, hI, (fun k n529 n530 => rfl), (fun k n39 n40 n41 => rfl), (fun k n0 => rfl), ⟨(by decide +kernel), trivial⟩⟩
  · skip
    have bv5 := VV_b hv5
    refine ⟨rfl, rfl, ?_⟩
    show pmE pg X pg_tyl pg_cl (d + 5) 91 8 [.ref 0, .int x1, .int x2, pm_dead, pm_dead, pm_dead] [.ref v5] (cd f A R wr) _
    refine pe_astore_n (j := 3) (ls' := [.ref 0, .int x1, .int x2, .ref v5, pm_dead, pm_dead]) (by decide +kernel) (Nat.le_of_ble_eq_true rfl) rfl ?_
    refine pe_aload_n (j := 0) (by decide +kernel) rfl ?_
    refine pe_get (j := 12) (ci := 11) (n := 0) (by decide +kernel) (by decide +kernel) cd_o0 rfl ?_
    refine pe_iload_n (j := 2) (by decide +kernel) rfl ?_
    refine pz_callV (j := 148) (mj := 67) (by decide +kernel) (cll_V (args := [.int x2]) (n := 1) (by decide +kernel) rfl rfl cd_o1 (by decide +kernel) (Nat.le_of_ble_eq_true rfl) (Nat.le_of_ble_eq_true rfl)) (CM_atR hI) (fun q3a q3b q3c q3d hqq3 => ?_)
    obtain ⟨rq3, eq3, kq3⟩ := hqq3
    cases eq3
    rcases kq3 with rfl | ⟨rw14, hrw14, rfl⟩
    · skip
      refine ⟨rfl, rfl, ?_⟩
      show pmE pg X pg_tyl pg_cl (d + 5) 91 17 [.ref 0, .int x1, .int x2, .ref v5, pm_dead, pm_dead] [.null] (cd f A R wr) _
      refine pe_astoreN (j := 4) (ls' := [.ref 0, .int x1, .int x2, .ref v5, .null, pm_dead]) (by decide +kernel) (Nat.le_of_ble_eq_true rfl) rfl ?_
      refine pe_aload_n (j := 3) (by decide +kernel) rfl ?_
      refine pe_ifnull (off := 8) (by decide +kernel) ?_
      refine pe_aloadN (j := 4) (by decide +kernel) rfl ?_
      refine pe_ifnonnullN (off := 5) (by decide +kernel) ?_
      refine pe_iconstv (n := (-1)) (v := (-1)) (by decide +kernel) (by decide +kernel) ?_
      exact pe_iret (by decide +kernel) rfl rfl ⟨f, A, R, (-1), rfl, hI, (fun k n529 n530 => rfl), (fun k n39 n40 n41 => rfl), (fun k n0 => rfl), ⟨(by decide +kernel), trivial⟩⟩
    · skip
      have brw14 := RR_b hrw14
      refine ⟨rfl, rfl, ?_⟩
      show pmE pg X pg_tyl pg_cl (d + 5) 91 17 [.ref 0, .int x1, .int x2, .ref v5, pm_dead, pm_dead] [.ref rw14] (cd f A R wr) _
      refine pe_astore (j := 4) (ls' := [.ref 0, .int x1, .int x2, .ref v5, .ref rw14, pm_dead]) (by decide +kernel) (Nat.le_of_ble_eq_true rfl) rfl ?_
      refine pe_aload_n (j := 3) (by decide +kernel) rfl ?_
      refine pe_ifnull (off := 8) (by decide +kernel) ?_
      refine pe_aload (j := 4) (by decide +kernel) rfl ?_
      refine pe_ifnonnull (off := 5) (t := 30) (by decide +kernel) (by decide) rfl ?_
      refine pe_aload_n (j := 0) (by decide +kernel) rfl ?_
      refine pe_get (j := 34) (ci := 11) (n := 4) (by decide +kernel) (by decide +kernel) cd_o0 rfl ?_
      refine pe_aload_n (j := 3) (by decide +kernel) rfl ?_
      refine pi_V (j := 170) (mj := 74) (by decide +kernel) (cll_V (args := [.ref v5]) (n := 1) (by decide +kernel) rfl rfl cd_o33 (by decide +kernel) (Nat.le_of_ble_eq_true rfl) (Nat.le_of_ble_eq_true rfl)) ?_
      show pmE pg X pg_tyl pg_cl (d + 4) 74 0 [.ref 33, .ref v5] [] (cd f A R wr) _
      refine pe_aload_n (j := 0) (by decide +kernel) rfl ?_
      refine pe_aload_n (j := 1) (by decide +kernel) rfl ?_
      refine cz_putR0 (jj := 12) (ty := (.object "RingVillage$Village")) (by decide +kernel) (by decide +kernel) hI pm_fit_obj ⟨_, rfl⟩ (fun R4 eR4 hIR4 => ?_)
      refine pe_aload_n (j := 0) (by decide +kernel) rfl ?_
      refine pe_iconstv (n := 0) (v := 0) (by decide +kernel) (by decide +kernel) ?_
      refine cz_put529 (jj := 28) (by decide +kernel) (by decide +kernel) hIR4 (fun f5 ef5 hIf5 => ?_)
      refine pe_aload_n (j := 0) (by decide +kernel) rfl ?_
      refine pe_iconstv (n := 0) (v := 0) (by decide +kernel) (by decide +kernel) ?_
      refine cz_put530 (jj := 32) (by decide +kernel) (by decide +kernel) hIf5 (by decide +kernel) (by decide +kernel) (fun f6 ef6 hIf6 => ?_)
      refine pe_aload_n (j := 0) (by decide +kernel) rfl ?_
      refine pe_get (j := 18) (ci := 7) (n := 3) (by decide +kernel) (by decide +kernel) cd_o33 rfl ?_
      refine pe_iconstv (n := 0) (v := 0) (by decide +kernel) (by decide +kernel) ?_
      refine cz_fill (j := 35) (k := 39) (n := 81) (by decide +kernel) (by decide +kernel) rfl cd_a39 (fun _ => cd_s39) hIf6 (cl_39 hIf6) (by decide +kernel) (ct_no (by decide +kernel)) (fun A7 eA7 hIA7 => ?_)
      refine pe_vret (by decide +kernel) rfl ⟨rfl, rfl, ?_⟩
      show pmE pg X pg_tyl pg_cl (d + 5) 91 38 [.ref 0, .int x1, .int x2, .ref v5, .ref rw14, pm_dead] [] (cd f6 A7 R4 wr) _
      refine pe_iconstv (n := 0) (v := 0) (by decide +kernel) (by decide +kernel) ?_
      refine pe_istore (j := 5) (ls' := [.ref 0, .int x1, .int x2, .ref v5, .ref rw14, .int 0]) (by decide +kernel) (Nat.le_of_ble_eq_true rfl) rfl ?_
      refine CL_91_41 hX hv5 hrw14 (upr_at eR4) (fun f8 A9 y10 hIy11 hGf8 hFA9 gy10 => ?_) (fun f12 A13 r14 hIy15 hGf12 hFA13 gr14 => ⟨f12, A13, R4, r14, rfl, hIy15, (fun k n529 n530 => ((hGf12 k n529 n530)).trans ((upf_fr ef6 n530).trans (upf_fr ef5 n529))), (fun k n39 n40 n41 => ((hFA13 k n39 n40 n41)).trans (upa_fr eA7 n39)), (fun k n0 => upr_fr eR4 n0), ⟨(by omega), trivial⟩⟩) (fun f16 A17 hIy18 hGf16 hFA17 => ⟨f16, A17, R4, (-1), rfl, hIy18, (fun k n529 n530 => ((hGf16 k n529 n530)).trans ((upf_fr ef6 n530).trans (upf_fr ef5 n529))), (fun k n39 n40 n41 => ((hFA17 k n39 n40 n41)).trans (upa_fr eA7 n39)), (fun k n0 => upr_fr eR4 n0), ⟨(by decide +kernel), trivial⟩⟩) 31 f6 A7 0 hIA7 (fun k _ _ => rfl) (fun k _ _ _ => rfl) (by decide +kernel) (by decide +kernel)
      refine pe_iconstv (n := (-1)) (v := (-1)) (by decide +kernel) (by decide +kernel) ?_
      exact pe_iret (by decide +kernel) rfl rfl ⟨f8, A9, R4, (-1), rfl, hIy11, (fun k n529 n530 => ((hGf8 k n529 n530)).trans ((upf_fr ef6 n530).trans (upf_fr ef5 n529))), (fun k n39 n40 n41 => ((hFA9 k n39 n40 n41)).trans (upa_fr eA7 n39)), (fun k n0 => upr_fr eR4 n0), ⟨(by decide +kernel), trivial⟩⟩
set_option maxRecDepth 100000 in
set_option maxHeartbeats 8000000 in
theorem CM_96 {X : pm_X} {d : Nat} {wr : pm_W} {f : Nat → Int32} {A : Nat → List Int32} {R : Nat → Value} {x1 x2 x3 x4 x5 : Int32} (hX : XO X) (hI : CI f A R) : pmE pg X pg_tyl pg_cl (d + 7) 96 0 (pm_ent (pm_max pg 96) [.ref 0, .int x1, .int x2, .int x3, .int x4, .int x5]) [] (cd f A R wr) (fun q => ∃ (f' : Nat → Int32) (A' : Nat → List Int32) (R' : Nat → Value) (r : Int32), q = (some (.int r), cd f' A' R' wr, 0, 0) ∧ CI f' A' R' ∧ (∀ k : Nat, k ≠ 529 → k ≠ 530 → f' k = f k) ∧ (∀ k : Nat, k ≠ 39 → k ≠ 40 → k ≠ 41 → A' k = A k) ∧ (∀ k : Nat, k ≠ 0 → R' k = R k) ∧ ((True ∧ True))) := by
  show pmE pg X pg_tyl pg_cl (d + 7) 96 0 [.ref 0, .int x1, .int x2, .int x3, .int x4, .int x5] [] (cd f A R wr) _
  refine pe_aload_n (j := 0) (by decide +kernel) rfl ?_
  refine pe_iload_n (j := 1) (by decide +kernel) rfl ?_
  refine pe_iload_n (j := 2) (by decide +kernel) rfl ?_
  refine pe_iload_n (j := 3) (by decide +kernel) rfl ?_
  refine pe_iload (j := 4) (by decide +kernel) rfl ?_
  refine pe_iload (j := 5) (by decide +kernel) rfl ?_
  refine pz_callV (j := 182) (mj := 97) (by decide +kernel) (cll_V (args := [.int x5, .int x4, .int x3, .int x2, .int x1]) (n := 5) (by decide +kernel) rfl rfl cd_o0 (by decide +kernel) (Nat.le_of_ble_eq_true rfl) (Nat.le_of_ble_eq_true rfl)) (CM_97 hX hI) (fun q1a q1b q1c q1d hqq1 => ?_)
  obtain ⟨f2, A3, R4, rq1, eq1, hIq1, hGq1, hFq1, hHq1, kq1⟩ := hqq1
  cases eq1
  refine ⟨rfl, rfl, ?_⟩
  rcases kq1 with kq1 | kq1
  · skip
    obtain ⟨erq1, kq1⟩ := kq1
    subst erq1
    show pmE pg X pg_tyl pg_cl (d + 7) 96 11 [.ref 0, .int x1, .int x2, .int x3, .int x4, .int x5] [.int 0] (cd f2 A3 R4 wr) _
    refine pz_if_ne (off := 5) (t := 16) (by decide +kernel) (by decide) rfl kz_0 (fun h5 => by omega) (fun h5 => ?_)
    refine pe_iconstv (n := (-1)) (v := (-1)) (by decide +kernel) (by decide +kernel) ?_
    exact pe_iret (by decide +kernel) rfl rfl ⟨f2, A3, R4, (-1), rfl, hIq1, (fun k n529 n530 => (hGq1 k n529 n530)), (fun k n39 n40 n41 => (hFq1 k n39 n40 n41)), (fun k n0 => (hHq1 k n0)), ⟨trivial, trivial⟩⟩
  · skip
    obtain ⟨erq1, kq1⟩ := kq1
    subst erq1
    obtain ⟨⟨v8, hv8, hR0q1⟩, kq1⟩ := kq1
    have bv8 := VV_b hv8
    show pmE pg X pg_tyl pg_cl (d + 7) 96 11 [.ref 0, .int x1, .int x2, .int x3, .int x4, .int x5] [.int 1] (cd f2 A3 R4 wr) _
    refine pz_if_ne (off := 5) (t := 16) (by decide +kernel) (by decide) rfl kz_1 (fun h6 => ?_) (fun h6 => by omega)
    refine pe_aload_n (j := 0) (by decide +kernel) rfl ?_
    refine pe_get (j := 34) (ci := 11) (n := 4) (by decide +kernel) (by decide +kernel) cd_o0 rfl ?_
    refine pe_get (j := 186) (ci := 7) (n := 3) (by decide +kernel) (by decide +kernel) cd_o33 rfl ?_
    refine pe_iload (j := 4) (by decide +kernel) rfl ?_
    refine pe_iload (j := 5) (by decide +kernel) rfl ?_
    refine pi_S (j := 139) (mj := 52) (by decide +kernel) (by decide +kernel) rfl ?_
    show pmE pg X pg_tyl pg_cl (d + 6) 52 0 [.int x4, .int x5] [] (cd f2 A3 R4 wr) _
    refine pe_iload_n (j := 0) (by decide +kernel) rfl ?_
    refine pe_bipushv (n := 9) (v := 9) (by decide +kernel) (by decide +kernel) ?_
    refine pz_mul (by decide +kernel) rfl kz_9 (by omega) (by omega) (fun z7 hz7 => ?_)
    refine pe_iload_n (j := 1) (by decide +kernel) rfl ?_
    refine pz_add (by decide +kernel) hz7 rfl (by omega) (by omega) (fun z8 hz8 => ?_)
    clear hz7
    refine pe_iret (by decide +kernel) rfl rfl ⟨rfl, rfl, ?_⟩
    show pmE pg X pg_tyl pg_cl (d + 7) 96 30 [.ref 0, .int x1, .int x2, .int x3, .int x4, .int x5] [.int z8, .ref 39] (cd f2 A3 R4 wr) _
    refine pz_iald (by decide +kernel) cd_a39 (cl_39 hIq1) hz8 (by omega) (by omega) (fun v9 ev9 => ?_)
    clear hz8
    exact pe_iret (by decide +kernel) rfl rfl ⟨f2, A3, R4, v9, rfl, hIq1, (fun k n529 n530 => (hGq1 k n529 n530)), (fun k n39 n40 n41 => (hFq1 k n39 n40 n41)), (fun k n0 => (hHq1 k n0)), ⟨trivial, trivial⟩⟩
set_option maxRecDepth 100000 in
set_option maxHeartbeats 8000000 in
theorem CM_99 {X : pm_X} {d : Nat} {wr : pm_W} {f : Nat → Int32} {A : Nat → List Int32} {R : Nat → Value} {x1 x2 x3 x4 x5 : Int32} (hX : XO X) (hI : CI f A R) : pmE pg X pg_tyl pg_cl (d + 7) 99 0 (pm_ent (pm_max pg 99) [.ref 0, .int x1, .int x2, .int x3, .int x4, .int x5]) [] (cd f A R wr) (fun q => ∃ (f' : Nat → Int32) (A' : Nat → List Int32) (R' : Nat → Value) (r : Int32), q = (some (.int r), cd f' A' R' wr, 0, 0) ∧ CI f' A' R' ∧ (∀ k : Nat, k ≠ 529 → k ≠ 530 → f' k = f k) ∧ (∀ k : Nat, k ≠ 39 → k ≠ 40 → k ≠ 41 → A' k = A k) ∧ (∀ k : Nat, k ≠ 0 → R' k = R k) ∧ ((((-1) ≤ r.toInt) ∧ True))) := by
  show pmE pg X pg_tyl pg_cl (d + 7) 99 0 [.ref 0, .int x1, .int x2, .int x3, .int x4, .int x5] [] (cd f A R wr) _
  refine pe_aload_n (j := 0) (by decide +kernel) rfl ?_
  refine pe_iload_n (j := 1) (by decide +kernel) rfl ?_
  refine pe_iload_n (j := 2) (by decide +kernel) rfl ?_
  refine pe_iload_n (j := 3) (by decide +kernel) rfl ?_
  refine pe_iload (j := 4) (by decide +kernel) rfl ?_
  refine pe_iload (j := 5) (by decide +kernel) rfl ?_
  refine pz_callV (j := 182) (mj := 97) (by decide +kernel) (cll_V (args := [.int x5, .int x4, .int x3, .int x2, .int x1]) (n := 5) (by decide +kernel) rfl rfl cd_o0 (by decide +kernel) (Nat.le_of_ble_eq_true rfl) (Nat.le_of_ble_eq_true rfl)) (CM_97 hX hI) (fun q1a q1b q1c q1d hqq1 => ?_)
  obtain ⟨f2, A3, R4, rq1, eq1, hIq1, hGq1, hFq1, hHq1, kq1⟩ := hqq1
  cases eq1
  refine ⟨rfl, rfl, ?_⟩
  rcases kq1 with kq1 | kq1
  · skip
    obtain ⟨erq1, kq1⟩ := kq1
    subst erq1
    show pmE pg X pg_tyl pg_cl (d + 7) 99 11 [.ref 0, .int x1, .int x2, .int x3, .int x4, .int x5] [.int 0] (cd f2 A3 R4 wr) _
    refine pz_if_ne (off := 5) (t := 16) (by decide +kernel) (by decide) rfl kz_0 (fun h5 => by omega) (fun h5 => ?_)
    refine pe_iconstv (n := (-1)) (v := (-1)) (by decide +kernel) (by decide +kernel) ?_
    exact pe_iret (by decide +kernel) rfl rfl ⟨f2, A3, R4, (-1), rfl, hIq1, (fun k n529 n530 => (hGq1 k n529 n530)), (fun k n39 n40 n41 => (hFq1 k n39 n40 n41)), (fun k n0 => (hHq1 k n0)), ⟨(by decide +kernel), trivial⟩⟩
  · skip
    obtain ⟨erq1, kq1⟩ := kq1
    subst erq1
    obtain ⟨⟨v8, hv8, hR0q1⟩, kq1⟩ := kq1
    have bv8 := VV_b hv8
    show pmE pg X pg_tyl pg_cl (d + 7) 99 11 [.ref 0, .int x1, .int x2, .int x3, .int x4, .int x5] [.int 1] (cd f2 A3 R4 wr) _
    refine pz_if_ne (off := 5) (t := 16) (by decide +kernel) (by decide) rfl kz_1 (fun h6 => ?_) (fun h6 => by omega)
    refine pe_aload_n (j := 0) (by decide +kernel) rfl ?_
    refine pe_get (j := 34) (ci := 11) (n := 4) (by decide +kernel) (by decide +kernel) cd_o0 rfl ?_
    refine pe_iload (j := 4) (by decide +kernel) rfl ?_
    refine pe_iload (j := 5) (by decide +kernel) rfl ?_
    refine pz_callV (j := 189) (mj := 77) (by decide +kernel) (cll_V (args := [.int x5, .int x4]) (n := 2) (by decide +kernel) rfl rfl cd_o33 (by decide +kernel) (Nat.le_of_ble_eq_true rfl) (Nat.le_of_ble_eq_true rfl)) (CM_77 hX hIq1 hv8 (hR0q1) (by omega) (by omega)) (fun q7a q7b q7c q7d hqq7 => ?_)
    obtain ⟨rq7, eq7, kq7⟩ := hqq7
    cases eq7
    refine ⟨rfl, rfl, ?_⟩
    show pmE pg X pg_tyl pg_cl (d + 7) 99 27 [.ref 0, .int x1, .int x2, .int x3, .int x4, .int x5] [.int rq7] (cd f2 A3 R4 wr) _
    exact pe_iret (by decide +kernel) rfl rfl ⟨f2, A3, R4, rq7, rfl, hIq1, (fun k n529 n530 => (hGq1 k n529 n530)), (fun k n39 n40 n41 => (hFq1 k n39 n40 n41)), (fun k n0 => (hHq1 k n0)), ⟨(by omega), trivial⟩⟩
set_option maxRecDepth 100000 in
set_option maxHeartbeats 8000000 in
theorem CM_100 {X : pm_X} {d : Nat} {wr : pm_W} {f : Nat → Int32} {A : Nat → List Int32} {R : Nat → Value} {x1 x2 x3 x4 : Int32} (hX : XO X) (hI : CI f A R) : pmE pg X pg_tyl pg_cl (d + 7) 100 0 (pm_ent (pm_max pg 100) [.ref 0, .int x1, .int x2, .int x3, .int x4]) [] (cd f A R wr) (fun q => ∃ (f' : Nat → Int32) (A' : Nat → List Int32) (R' : Nat → Value) (r : Int32), q = (some (.int r), cd f' A' R' wr, 0, 0) ∧ CI f' A' R' ∧ (∀ k : Nat, k ≠ 529 → k ≠ 530 → f' k = f k) ∧ (∀ k : Nat, k ≠ 39 → k ≠ 40 → k ≠ 41 → A' k = A k) ∧ (∀ k : Nat, k ≠ 0 → R' k = R k) ∧ ((True ∧ True))) := by
  show pmE pg X pg_tyl pg_cl (d + 7) 100 0 [.ref 0, .int x1, .int x2, .int x3, .int x4] [] (cd f A R wr) _
  refine pe_aload_n (j := 0) (by decide +kernel) rfl ?_
  refine pe_iload_n (j := 1) (by decide +kernel) rfl ?_
  refine pe_iload_n (j := 2) (by decide +kernel) rfl ?_
  refine pe_iload_n (j := 3) (by decide +kernel) rfl ?_
  refine pe_iload (j := 4) (by decide +kernel) rfl ?_
  refine pz_callV (j := 192) (mj := 101) (by decide +kernel) (cll_V (args := [.int x4, .int x3, .int x2, .int x1]) (n := 4) (by decide +kernel) rfl rfl cd_o0 (by decide +kernel) (Nat.le_of_ble_eq_true rfl) (Nat.le_of_ble_eq_true rfl)) (CM_101 hX hI) (fun q1a q1b q1c q1d hqq1 => ?_)
  obtain ⟨f2, A3, R4, rq1, eq1, hIq1, hGq1, hFq1, hHq1, kq1⟩ := hqq1
  cases eq1
  refine ⟨rfl, rfl, ?_⟩
  rcases kq1 with kq1 | kq1
  · skip
    obtain ⟨erq1, kq1⟩ := kq1
    subst erq1
    show pmE pg X pg_tyl pg_cl (d + 7) 100 9 [.ref 0, .int x1, .int x2, .int x3, .int x4] [.int 0] (cd f2 A3 R4 wr) _
    refine pz_if_ne (off := 6) (t := 15) (by decide +kernel) (by decide) rfl kz_0 (fun h5 => by omega) (fun h5 => ?_)
    refine pe_ldc (j := 196) (v := (-100000)) (by decide +kernel) (by decide +kernel) ?_
    exact pe_iret (by decide +kernel) rfl rfl ⟨f2, A3, R4, (-100000), rfl, hIq1, (fun k n529 n530 => (hGq1 k n529 n530)), (fun k n39 n40 n41 => (hFq1 k n39 n40 n41)), (fun k n0 => (hHq1 k n0)), ⟨trivial, trivial⟩⟩
  · skip
    obtain ⟨erq1, kq1⟩ := kq1
    subst erq1
    obtain ⟨⟨v6, hv6, hR0q1⟩, kq1⟩ := kq1
    have bv6 := VV_b hv6
    show pmE pg X pg_tyl pg_cl (d + 7) 100 9 [.ref 0, .int x1, .int x2, .int x3, .int x4] [.int 1] (cd f2 A3 R4 wr) _
    refine pz_if_ne (off := 6) (t := 15) (by decide +kernel) (by decide) rfl kz_1 (fun h6 => ?_) (fun h6 => by omega)
    refine pe_aload_n (j := 0) (by decide +kernel) rfl ?_
    refine pe_get (j := 34) (ci := 11) (n := 4) (by decide +kernel) (by decide +kernel) cd_o0 rfl ?_
    refine pe_iload (j := 4) (by decide +kernel) rfl ?_
    refine pz_callV (j := 197) (mj := 94) (by decide +kernel) (cll_V (args := [.int x4]) (n := 1) (by decide +kernel) rfl rfl cd_o33 (by decide +kernel) (Nat.le_of_ble_eq_true rfl) (Nat.le_of_ble_eq_true rfl)) (CM_94 hX hIq1 hv6 (hR0q1) (by omega)) (fun q7a q7b q7c q7d hqq7 => ?_)
    obtain ⟨rq7, eq7, kq7⟩ := hqq7
    cases eq7
    refine ⟨rfl, rfl, ?_⟩
    show pmE pg X pg_tyl pg_cl (d + 7) 100 24 [.ref 0, .int x1, .int x2, .int x3, .int x4] [.int rq7] (cd f2 A3 R4 wr) _
    exact pe_iret (by decide +kernel) rfl rfl ⟨f2, A3, R4, rq7, rfl, hIq1, (fun k n529 n530 => (hGq1 k n529 n530)), (fun k n39 n40 n41 => (hFq1 k n39 n40 n41)), (fun k n0 => (hHq1 k n0)), ⟨trivial, trivial⟩⟩
set_option maxRecDepth 100000 in
set_option maxHeartbeats 8000000 in
theorem CM_102 {X : pm_X} {d : Nat} {wr : pm_W} {f : Nat → Int32} {A : Nat → List Int32} {R : Nat → Value} {x1 x2 x3 : Int32} (hX : XO X) (hI : CI f A R) : pmE pg X pg_tyl pg_cl (d + 6) 102 0 (pm_ent (pm_max pg 102) [.ref 0, .int x1, .int x2, .int x3]) [] (cd f A R wr) (fun q => ∃ (f' : Nat → Int32) (A' : Nat → List Int32) (R' : Nat → Value) (r : Int32), q = (some (.int r), cd f' A' R' wr, 0, 0) ∧ CI f' A' R' ∧ (∀ k : Nat, k ≠ 529 → k ≠ 530 → f' k = f k) ∧ (∀ k : Nat, k ≠ 39 → k ≠ 40 → k ≠ 41 → A' k = A k) ∧ (∀ k : Nat, k ≠ 0 → R' k = R k) ∧ ((r = 0 ∧ True) ∨ (r = 1 ∧ (0 ≤ x3.toInt ∧ x3.toInt ≤ 30)))) := by
  show pmE pg X pg_tyl pg_cl (d + 6) 102 0 [.ref 0, .int x1, .int x2, .int x3] [] (cd f A R wr) _
  refine pe_aload_n (j := 0) (by decide +kernel) rfl ?_
  refine pe_iload_n (j := 1) (by decide +kernel) rfl ?_
  refine pe_iload_n (j := 2) (by decide +kernel) rfl ?_
  refine pe_iload_n (j := 3) (by decide +kernel) rfl ?_
  refine pz_callV (j := 201) (mj := 98) (by decide +kernel) (cll_V (args := [.int x3, .int x2, .int x1]) (n := 3) (by decide +kernel) rfl rfl cd_o0 (by decide +kernel) (Nat.le_of_ble_eq_true rfl) (Nat.le_of_ble_eq_true rfl)) (CM_98 hX hI) (fun q1a q1b q1c q1d hqq1 => ?_)
  obtain ⟨f2, A3, R4, rq1, eq1, hIq1, hGq1, hFq1, hHq1, kq1⟩ := hqq1
  cases eq1
  refine ⟨rfl, rfl, ?_⟩
  rcases kq1 with kq1 | kq1
  · skip
    obtain ⟨erq1, kq1⟩ := kq1
    subst erq1
    show pmE pg X pg_tyl pg_cl (d + 6) 102 7 [.ref 0, .int x1, .int x2, .int x3] [.int 0] (cd f2 A3 R4 wr) _
    refine pz_if_eq (off := 17) (t := 24) (by decide +kernel) (by decide) rfl kz_0 (fun h5 => ?_) (fun h5 => by omega)
    refine pe_iconstv (n := 0) (v := 0) (by decide +kernel) (by decide +kernel) ?_
    exact pe_iret (by decide +kernel) rfl rfl ⟨f2, A3, R4, 0, rfl, hIq1, (fun k n529 n530 => (hGq1 k n529 n530)), (fun k n39 n40 n41 => (hFq1 k n39 n40 n41)), (fun k n0 => (hHq1 k n0)), Or.inl ⟨rfl, trivial⟩⟩
  · skip
    obtain ⟨erq1, kq1⟩ := kq1
    subst erq1
    obtain ⟨⟨v4, hv4, hR0q1⟩, kq1⟩ := kq1
    have bv4 := VV_b hv4
    show pmE pg X pg_tyl pg_cl (d + 6) 102 7 [.ref 0, .int x1, .int x2, .int x3] [.int 1] (cd f2 A3 R4 wr) _
    refine pz_if_eq (off := 17) (t := 24) (by decide +kernel) (by decide) rfl kz_1 (fun h6 => by omega) (fun h6 => ?_)
    refine pe_aload_n (j := 0) (by decide +kernel) rfl ?_
    refine pe_get (j := 34) (ci := 11) (n := 4) (by decide +kernel) (by decide +kernel) cd_o0 rfl ?_
    refine pz_callV (j := 178) (mj := 92) (by decide +kernel) (cll_V (args := []) (n := 0) (by decide +kernel) rfl rfl cd_o33 (by decide +kernel) (Nat.le_of_ble_eq_true rfl) (Nat.le_of_ble_eq_true rfl)) (CM_92 hX hIq1 hv4 (hR0q1)) (fun q7a q7b q7c q7d hqq7 => ?_)
    obtain ⟨rq7, eq7, kq7⟩ := hqq7
    cases eq7
    refine ⟨rfl, rfl, ?_⟩
    rcases kq7 with kq7 | kq7
    · skip
      obtain ⟨erq7, kq7⟩ := kq7
      subst erq7
      show pmE pg X pg_tyl pg_cl (d + 6) 102 17 [.ref 0, .int x1, .int x2, .int x3] [.int 0] (cd f2 A3 R4 wr) _
      refine pz_if_eq (off := 7) (t := 24) (by decide +kernel) (by decide) rfl kz_0 (fun h8 => ?_) (fun h8 => by omega)
      refine pe_iconstv (n := 0) (v := 0) (by decide +kernel) (by decide +kernel) ?_
      exact pe_iret (by decide +kernel) rfl rfl ⟨f2, A3, R4, 0, rfl, hIq1, (fun k n529 n530 => (hGq1 k n529 n530)), (fun k n39 n40 n41 => (hFq1 k n39 n40 n41)), (fun k n0 => (hHq1 k n0)), Or.inl ⟨rfl, trivial⟩⟩
    · skip
      obtain ⟨erq7, kq7⟩ := kq7
      subst erq7
      show pmE pg X pg_tyl pg_cl (d + 6) 102 17 [.ref 0, .int x1, .int x2, .int x3] [.int 1] (cd f2 A3 R4 wr) _
      refine pz_if_eq (off := 7) (t := 24) (by decide +kernel) (by decide) rfl kz_1 (fun h9 => by omega) (fun h9 => ?_)
      refine pe_iconstv (n := 1) (v := 1) (by decide +kernel) (by decide +kernel) ?_
      refine pe_goto (off := 4) (t := 25) (by decide +kernel) (by decide) rfl ?_
      exact pe_iret (by decide +kernel) rfl rfl ⟨f2, A3, R4, 1, rfl, hIq1, (fun k n529 n530 => (hGq1 k n529 n530)), (fun k n39 n40 n41 => (hFq1 k n39 n40 n41)), (fun k n0 => (hHq1 k n0)), Or.inr (⟨rfl, (by omega)⟩)⟩
set_option maxRecDepth 100000 in
set_option maxHeartbeats 8000000 in
theorem CM_103 {X : pm_X} {d : Nat} {wr : pm_W} {f : Nat → Int32} {A : Nat → List Int32} {R : Nat → Value} {x1 x2 x3 x4 : Int32} (hX : XO X) (hI : CI f A R) : pmE pg X pg_tyl pg_cl (d + 6) 103 0 (pm_ent (pm_max pg 103) [.ref 0, .int x1, .int x2, .int x3, .int x4]) [] (cd f A R wr) (fun q => ∃ (f' : Nat → Int32) (A' : Nat → List Int32) (R' : Nat → Value) (r : Int32), q = (some (.int r), cd f' A' R' wr, 0, 0) ∧ CI f' A' R' ∧ (∀ k : Nat, k ≠ 529 → k ≠ 530 → k ≠ 737 → k ≠ 738 → f' k = f k) ∧ (∀ k : Nat, k ≠ 39 → k ≠ 40 → k ≠ 41 → k ≠ 43 → k ≠ 44 → k ≠ 45 → k ≠ 52 → k ≠ 53 → A' k = A k) ∧ (∀ k : Nat, k ≠ 0 → k ≠ 1 → R' k = R k) ∧ ((True ∧ True))) := by
  show pmE pg X pg_tyl pg_cl (d + 6) 103 0 [.ref 0, .int x1, .int x2, .int x3, .int x4] [] (cd f A R wr) _
  refine pe_aload_n (j := 0) (by decide +kernel) rfl ?_
  refine pe_iload_n (j := 1) (by decide +kernel) rfl ?_
  refine pe_iload_n (j := 2) (by decide +kernel) rfl ?_
  refine pe_iload_n (j := 3) (by decide +kernel) rfl ?_
  refine pz_callV (j := 201) (mj := 98) (by decide +kernel) (cll_V (args := [.int x3, .int x2, .int x1]) (n := 3) (by decide +kernel) rfl rfl cd_o0 (by decide +kernel) (Nat.le_of_ble_eq_true rfl) (Nat.le_of_ble_eq_true rfl)) (CM_98 hX hI) (fun q1a q1b q1c q1d hqq1 => ?_)
  obtain ⟨f2, A3, R4, rq1, eq1, hIq1, hGq1, hFq1, hHq1, kq1⟩ := hqq1
  cases eq1
  refine ⟨rfl, rfl, ?_⟩
  rcases kq1 with kq1 | kq1
  · skip
    obtain ⟨erq1, kq1⟩ := kq1
    subst erq1
    show pmE pg X pg_tyl pg_cl (d + 6) 103 7 [.ref 0, .int x1, .int x2, .int x3, .int x4] [.int 0] (cd f2 A3 R4 wr) _
    refine pz_if_ne (off := 6) (t := 13) (by decide +kernel) (by decide) rfl kz_0 (fun h5 => by omega) (fun h5 => ?_)
    refine pe_bipushv (n := (-2)) (v := (-2)) (by decide +kernel) (by decide +kernel) ?_
    exact pe_iret (by decide +kernel) rfl rfl ⟨f2, A3, R4, (-2), rfl, hIq1, (fun k n529 n530 n737 n738 => (hGq1 k n529 n530)), (fun k n39 n40 n41 n43 n44 n45 n52 n53 => (hFq1 k n39 n40 n41)), (fun k n0 n1 => (hHq1 k n0)), ⟨trivial, trivial⟩⟩
  · skip
    obtain ⟨erq1, kq1⟩ := kq1
    subst erq1
    obtain ⟨⟨v4, hv4, hR0q1⟩, kq1⟩ := kq1
    have bv4 := VV_b hv4
    show pmE pg X pg_tyl pg_cl (d + 6) 103 7 [.ref 0, .int x1, .int x2, .int x3, .int x4] [.int 1] (cd f2 A3 R4 wr) _
    refine pz_if_ne (off := 6) (t := 13) (by decide +kernel) (by decide) rfl kz_1 (fun h6 => ?_) (fun h6 => by omega)
    refine pe_iload (j := 4) (by decide +kernel) rfl ?_
    by_cases h7 : x4.toInt = 0
    · skip
      refine pe_tableIn (df := 169) (lo := 0) (hi := 10) (off := 57) (offs := #[57, 65, 73, 81, 89, 97, 109, 121, 133, 145, 157]) (t := 72) (by decide +kernel) (by omega) (by rw [h7]; rfl) (by decide) rfl ?_
      refine pe_aload_n (j := 0) (by decide +kernel) rfl ?_
      refine pe_get (j := 34) (ci := 11) (n := 4) (by decide +kernel) (by decide +kernel) cd_o0 rfl ?_
      refine pe_get (j := 205) (ci := 7) (n := 1) (by decide +kernel) (by decide +kernel) cd_o33 rfl ?_
      exact pe_iret (by decide +kernel) rfl rfl ⟨f2, A3, R4, (f2 529), rfl, hIq1, (fun k n529 n530 n737 n738 => (hGq1 k n529 n530)), (fun k n39 n40 n41 n43 n44 n45 n52 n53 => (hFq1 k n39 n40 n41)), (fun k n0 n1 => (hHq1 k n0)), ⟨trivial, trivial⟩⟩
    · skip
      by_cases h8 : x4.toInt = 1
      · skip
        refine pe_tableIn (df := 169) (lo := 0) (hi := 10) (off := 65) (offs := #[57, 65, 73, 81, 89, 97, 109, 121, 133, 145, 157]) (t := 80) (by decide +kernel) (by omega) (by rw [h8]; rfl) (by decide) rfl ?_
        refine pe_aload_n (j := 0) (by decide +kernel) rfl ?_
        refine pe_get (j := 34) (ci := 11) (n := 4) (by decide +kernel) (by decide +kernel) cd_o0 rfl ?_
        refine pe_get (j := 208) (ci := 7) (n := 2) (by decide +kernel) (by decide +kernel) cd_o33 rfl ?_
        have hr_f2_530 := cf_530 hIq1
        exact pe_iret (by decide +kernel) rfl rfl ⟨f2, A3, R4, (f2 530), rfl, hIq1, (fun k n529 n530 n737 n738 => (hGq1 k n529 n530)), (fun k n39 n40 n41 n43 n44 n45 n52 n53 => (hFq1 k n39 n40 n41)), (fun k n0 n1 => (hHq1 k n0)), ⟨trivial, trivial⟩⟩
      · skip
        by_cases h9 : x4.toInt = 2
        · skip
          refine pe_tableIn (df := 169) (lo := 0) (hi := 10) (off := 73) (offs := #[57, 65, 73, 81, 89, 97, 109, 121, 133, 145, 157]) (t := 88) (by decide +kernel) (by omega) (by rw [h9]; rfl) (by decide) rfl ?_
          refine pe_aload_n (j := 0) (by decide +kernel) rfl ?_
          refine pe_get (j := 34) (ci := 11) (n := 4) (by decide +kernel) (by decide +kernel) cd_o0 rfl ?_
          refine pz_callV (j := 211) (mj := 104) (by decide +kernel) (cll_V (args := []) (n := 0) (by decide +kernel) rfl rfl cd_o33 (by decide +kernel) (Nat.le_of_ble_eq_true rfl) (Nat.le_of_ble_eq_true rfl)) (CM_104 hX hIq1) (fun q10a q10b q10c q10d hqq10 => ?_)
          obtain ⟨rq10, eq10, kq10⟩ := hqq10
          cases eq10
          refine ⟨rfl, rfl, ?_⟩
          show pmE pg X pg_tyl pg_cl (d + 6) 103 95 [.ref 0, .int x1, .int x2, .int x3, .int x4] [.int rq10] (cd f2 A3 R4 wr) _
          exact pe_iret (by decide +kernel) rfl rfl ⟨f2, A3, R4, rq10, rfl, hIq1, (fun k n529 n530 n737 n738 => (hGq1 k n529 n530)), (fun k n39 n40 n41 n43 n44 n45 n52 n53 => (hFq1 k n39 n40 n41)), (fun k n0 n1 => (hHq1 k n0)), ⟨trivial, trivial⟩⟩
        · skip
          by_cases h11 : x4.toInt = 3
          · skip
            refine pe_tableIn (df := 169) (lo := 0) (hi := 10) (off := 81) (offs := #[57, 65, 73, 81, 89, 97, 109, 121, 133, 145, 157]) (t := 96) (by decide +kernel) (by omega) (by rw [h11]; rfl) (by decide) rfl ?_
            refine pe_aload_n (j := 0) (by decide +kernel) rfl ?_
            refine pe_get (j := 34) (ci := 11) (n := 4) (by decide +kernel) (by decide +kernel) cd_o0 rfl ?_
            refine pz_callV (j := 215) (mj := 105) (by decide +kernel) (cll_V (args := []) (n := 0) (by decide +kernel) rfl rfl cd_o33 (by decide +kernel) (Nat.le_of_ble_eq_true rfl) (Nat.le_of_ble_eq_true rfl)) (CM_105 hX hIq1) (fun q12a q12b q12c q12d hqq12 => ?_)
            obtain ⟨rq12, eq12, kq12⟩ := hqq12
            cases eq12
            refine ⟨rfl, rfl, ?_⟩
            show pmE pg X pg_tyl pg_cl (d + 6) 103 103 [.ref 0, .int x1, .int x2, .int x3, .int x4] [.int rq12] (cd f2 A3 R4 wr) _
            exact pe_iret (by decide +kernel) rfl rfl ⟨f2, A3, R4, rq12, rfl, hIq1, (fun k n529 n530 n737 n738 => (hGq1 k n529 n530)), (fun k n39 n40 n41 n43 n44 n45 n52 n53 => (hFq1 k n39 n40 n41)), (fun k n0 n1 => (hHq1 k n0)), ⟨trivial, trivial⟩⟩
          · skip
            by_cases h13 : x4.toInt = 4
            · skip
              refine pe_tableIn (df := 169) (lo := 0) (hi := 10) (off := 89) (offs := #[57, 65, 73, 81, 89, 97, 109, 121, 133, 145, 157]) (t := 104) (by decide +kernel) (by omega) (by rw [h13]; rfl) (by decide) rfl ?_
              refine pe_aload_n (j := 0) (by decide +kernel) rfl ?_
              refine pe_get (j := 34) (ci := 11) (n := 4) (by decide +kernel) (by decide +kernel) cd_o0 rfl ?_
              refine pz_callV (j := 218) (mj := 106) (by decide +kernel) (cll_V (args := []) (n := 0) (by decide +kernel) rfl rfl cd_o33 (by decide +kernel) (Nat.le_of_ble_eq_true rfl) (Nat.le_of_ble_eq_true rfl)) (CM_106 hX hIq1 hv4 (hR0q1)) (fun q14a q14b q14c q14d hqq14 => ?_)
              obtain ⟨rq14, eq14, kq14⟩ := hqq14
              cases eq14
              refine ⟨rfl, rfl, ?_⟩
              show pmE pg X pg_tyl pg_cl (d + 6) 103 111 [.ref 0, .int x1, .int x2, .int x3, .int x4] [.int rq14] (cd f2 A3 R4 wr) _
              exact pe_iret (by decide +kernel) rfl rfl ⟨f2, A3, R4, rq14, rfl, hIq1, (fun k n529 n530 n737 n738 => (hGq1 k n529 n530)), (fun k n39 n40 n41 n43 n44 n45 n52 n53 => (hFq1 k n39 n40 n41)), (fun k n0 n1 => (hHq1 k n0)), ⟨trivial, trivial⟩⟩
            · skip
              by_cases h15 : x4.toInt = 5
              · skip
                refine pe_tableIn (df := 169) (lo := 0) (hi := 10) (off := 97) (offs := #[57, 65, 73, 81, 89, 97, 109, 121, 133, 145, 157]) (t := 112) (by decide +kernel) (by omega) (by rw [h15]; rfl) (by decide) rfl ?_
                refine pe_aload_n (j := 0) (by decide +kernel) rfl ?_
                refine pe_get (j := 41) (ci := 11) (n := 5) (by decide +kernel) (by decide +kernel) cd_o0 rfl ?_
                refine pe_aload_n (j := 0) (by decide +kernel) rfl ?_
                refine pe_get (j := 34) (ci := 11) (n := 4) (by decide +kernel) (by decide +kernel) cd_o0 rfl ?_
                refine pz_callV (j := 221) (mj := 107) (by decide +kernel) (cll_V (args := [.ref 33]) (n := 1) (by decide +kernel) rfl rfl cd_o42 (by decide +kernel) (Nat.le_of_ble_eq_true rfl) (Nat.le_of_ble_eq_true rfl)) (CM_107 hX hIq1) (fun q16a q16b q16c q16d hqq16 => ?_)
                obtain ⟨rq16, eq16, kq16⟩ := hqq16
                cases eq16
                refine ⟨rfl, rfl, ?_⟩
                show pmE pg X pg_tyl pg_cl (d + 6) 103 123 [.ref 0, .int x1, .int x2, .int x3, .int x4] [.int rq16] (cd f2 A3 R4 wr) _
                exact pe_iret (by decide +kernel) rfl rfl ⟨f2, A3, R4, rq16, rfl, hIq1, (fun k n529 n530 n737 n738 => (hGq1 k n529 n530)), (fun k n39 n40 n41 n43 n44 n45 n52 n53 => (hFq1 k n39 n40 n41)), (fun k n0 n1 => (hHq1 k n0)), ⟨trivial, trivial⟩⟩
              · skip
                by_cases h17 : x4.toInt = 6
                · skip
                  refine pe_tableIn (df := 169) (lo := 0) (hi := 10) (off := 109) (offs := #[57, 65, 73, 81, 89, 97, 109, 121, 133, 145, 157]) (t := 124) (by decide +kernel) (by omega) (by rw [h17]; rfl) (by decide) rfl ?_
                  refine pe_aload_n (j := 0) (by decide +kernel) rfl ?_
                  refine pe_get (j := 41) (ci := 11) (n := 5) (by decide +kernel) (by decide +kernel) cd_o0 rfl ?_
                  refine pe_aload_n (j := 0) (by decide +kernel) rfl ?_
                  refine pe_get (j := 34) (ci := 11) (n := 4) (by decide +kernel) (by decide +kernel) cd_o0 rfl ?_
                  refine pz_callV (j := 225) (mj := 108) (by decide +kernel) (cll_V (args := [.ref 33]) (n := 1) (by decide +kernel) rfl rfl cd_o42 (by decide +kernel) (Nat.le_of_ble_eq_true rfl) (Nat.le_of_ble_eq_true rfl)) (CM_108 hX hIq1 hv4 (hR0q1)) (fun q18a q18b q18c q18d hqq18 => ?_)
                  obtain ⟨A19, rq18, eq18, hIq18, hFq18, kq18⟩ := hqq18
                  cases eq18
                  refine ⟨rfl, rfl, ?_⟩
                  show pmE pg X pg_tyl pg_cl (d + 6) 103 135 [.ref 0, .int x1, .int x2, .int x3, .int x4] [.int rq18] (cd f2 A19 R4 wr) _
                  exact pe_iret (by decide +kernel) rfl rfl ⟨f2, A19, R4, rq18, rfl, hIq18, (fun k n529 n530 n737 n738 => (hGq1 k n529 n530)), (fun k n39 n40 n41 n43 n44 n45 n52 n53 => ((hFq18 k n43 n44 n45)).trans ((hFq1 k n39 n40 n41))), (fun k n0 n1 => (hHq1 k n0)), ⟨trivial, trivial⟩⟩
                · skip
                  by_cases h20 : x4.toInt = 7
                  · skip
                    refine pe_tableIn (df := 169) (lo := 0) (hi := 10) (off := 121) (offs := #[57, 65, 73, 81, 89, 97, 109, 121, 133, 145, 157]) (t := 136) (by decide +kernel) (by omega) (by rw [h20]; rfl) (by decide) rfl ?_
                    refine pe_aload_n (j := 0) (by decide +kernel) rfl ?_
                    refine pe_get (j := 41) (ci := 11) (n := 5) (by decide +kernel) (by decide +kernel) cd_o0 rfl ?_
                    refine pe_aload_n (j := 0) (by decide +kernel) rfl ?_
                    refine pe_get (j := 34) (ci := 11) (n := 4) (by decide +kernel) (by decide +kernel) cd_o0 rfl ?_
                    refine pz_callV (j := 228) (mj := 113) (by decide +kernel) (cll_V (args := [.ref 33]) (n := 1) (by decide +kernel) rfl rfl cd_o42 (by decide +kernel) (Nat.le_of_ble_eq_true rfl) (Nat.le_of_ble_eq_true rfl)) (CM_113 hX hIq1) (fun q21a q21b q21c q21d hqq21 => ?_)
                    obtain ⟨rq21, eq21, kq21⟩ := hqq21
                    cases eq21
                    refine ⟨rfl, rfl, ?_⟩
                    show pmE pg X pg_tyl pg_cl (d + 6) 103 147 [.ref 0, .int x1, .int x2, .int x3, .int x4] [.int rq21] (cd f2 A3 R4 wr) _
                    exact pe_iret (by decide +kernel) rfl rfl ⟨f2, A3, R4, rq21, rfl, hIq1, (fun k n529 n530 n737 n738 => (hGq1 k n529 n530)), (fun k n39 n40 n41 n43 n44 n45 n52 n53 => (hFq1 k n39 n40 n41)), (fun k n0 n1 => (hHq1 k n0)), ⟨trivial, trivial⟩⟩
                  · skip
                    by_cases h22 : x4.toInt = 8
                    · skip
                      refine pe_tableIn (df := 169) (lo := 0) (hi := 10) (off := 133) (offs := #[57, 65, 73, 81, 89, 97, 109, 121, 133, 145, 157]) (t := 148) (by decide +kernel) (by omega) (by rw [h22]; rfl) (by decide) rfl ?_
                      refine pe_aload_n (j := 0) (by decide +kernel) rfl ?_
                      refine pe_get (j := 41) (ci := 11) (n := 5) (by decide +kernel) (by decide +kernel) cd_o0 rfl ?_
                      refine pe_aload_n (j := 0) (by decide +kernel) rfl ?_
                      refine pe_get (j := 34) (ci := 11) (n := 4) (by decide +kernel) (by decide +kernel) cd_o0 rfl ?_
                      refine pz_callV (j := 231) (mj := 114) (by decide +kernel) (cll_V (args := [.ref 33]) (n := 1) (by decide +kernel) rfl rfl cd_o42 (by decide +kernel) (Nat.le_of_ble_eq_true rfl) (Nat.le_of_ble_eq_true rfl)) (CM_114 hX hIq1 hv4 (hR0q1)) (fun q23a q23b q23c q23d hqq23 => ?_)
                      obtain ⟨rq23, eq23, kq23⟩ := hqq23
                      cases eq23
                      refine ⟨rfl, rfl, ?_⟩
                      show pmE pg X pg_tyl pg_cl (d + 6) 103 159 [.ref 0, .int x1, .int x2, .int x3, .int x4] [.int rq23] (cd f2 A3 R4 wr) _
                      exact pe_iret (by decide +kernel) rfl rfl ⟨f2, A3, R4, rq23, rfl, hIq1, (fun k n529 n530 n737 n738 => (hGq1 k n529 n530)), (fun k n39 n40 n41 n43 n44 n45 n52 n53 => (hFq1 k n39 n40 n41)), (fun k n0 n1 => (hHq1 k n0)), ⟨trivial, trivial⟩⟩
                    · skip
                      by_cases h24 : x4.toInt = 9
                      · skip
                        refine pe_tableIn (df := 169) (lo := 0) (hi := 10) (off := 145) (offs := #[57, 65, 73, 81, 89, 97, 109, 121, 133, 145, 157]) (t := 160) (by decide +kernel) (by omega) (by rw [h24]; rfl) (by decide) rfl ?_
                        refine pe_aload_n (j := 0) (by decide +kernel) rfl ?_
                        refine pe_get (j := 41) (ci := 11) (n := 5) (by decide +kernel) (by decide +kernel) cd_o0 rfl ?_
                        refine pe_aload_n (j := 0) (by decide +kernel) rfl ?_
                        refine pe_get (j := 34) (ci := 11) (n := 4) (by decide +kernel) (by decide +kernel) cd_o0 rfl ?_
                        refine pz_callV (j := 234) (mj := 116) (by decide +kernel) (cll_V (args := [.ref 33]) (n := 1) (by decide +kernel) rfl rfl cd_o42 (by decide +kernel) (Nat.le_of_ble_eq_true rfl) (Nat.le_of_ble_eq_true rfl)) (CM_116 hX hIq1 hv4 (hR0q1)) (fun q25a q25b q25c q25d hqq25 => ?_)
                        obtain ⟨rq25, eq25, kq25⟩ := hqq25
                        cases eq25
                        refine ⟨rfl, rfl, ?_⟩
                        show pmE pg X pg_tyl pg_cl (d + 6) 103 171 [.ref 0, .int x1, .int x2, .int x3, .int x4] [.int rq25] (cd f2 A3 R4 wr) _
                        exact pe_iret (by decide +kernel) rfl rfl ⟨f2, A3, R4, rq25, rfl, hIq1, (fun k n529 n530 n737 n738 => (hGq1 k n529 n530)), (fun k n39 n40 n41 n43 n44 n45 n52 n53 => (hFq1 k n39 n40 n41)), (fun k n0 n1 => (hHq1 k n0)), ⟨trivial, trivial⟩⟩
                      · skip
                        by_cases h26 : x4.toInt = 10
                        · skip
                          refine pe_tableIn (df := 169) (lo := 0) (hi := 10) (off := 157) (offs := #[57, 65, 73, 81, 89, 97, 109, 121, 133, 145, 157]) (t := 172) (by decide +kernel) (by omega) (by rw [h26]; rfl) (by decide) rfl ?_
                          refine pe_aload_n (j := 0) (by decide +kernel) rfl ?_
                          refine pe_get (j := 41) (ci := 11) (n := 5) (by decide +kernel) (by decide +kernel) cd_o0 rfl ?_
                          refine pe_aload_n (j := 0) (by decide +kernel) rfl ?_
                          refine pe_get (j := 34) (ci := 11) (n := 4) (by decide +kernel) (by decide +kernel) cd_o0 rfl ?_
                          refine pz_callV (j := 237) (mj := 118) (by decide +kernel) (cll_V (args := [.ref 33]) (n := 1) (by decide +kernel) rfl rfl cd_o42 (by decide +kernel) (Nat.le_of_ble_eq_true rfl) (Nat.le_of_ble_eq_true rfl)) (CM_118 hX hIq1 hv4 (hR0q1)) (fun q27a q27b q27c q27d hqq27 => ?_)
                          obtain ⟨f28, A29, R30, rq27, eq27, hIq27, hGq27, hFq27, hHq27, kq27⟩ := hqq27
                          cases eq27
                          refine ⟨rfl, rfl, ?_⟩
                          show pmE pg X pg_tyl pg_cl (d + 6) 103 183 [.ref 0, .int x1, .int x2, .int x3, .int x4] [.int rq27] (cd f28 A29 R30 wr) _
                          exact pe_iret (by decide +kernel) rfl rfl ⟨f28, A29, R30, rq27, rfl, hIq27, (fun k n529 n530 n737 n738 => ((hGq27 k n737 n738)).trans ((hGq1 k n529 n530))), (fun k n39 n40 n41 n43 n44 n45 n52 n53 => ((hFq27 k n52 n53)).trans ((hFq1 k n39 n40 n41))), (fun k n0 n1 => ((hHq27 k n1)).trans ((hHq1 k n0))), ⟨trivial, trivial⟩⟩
                        · skip
                          refine pe_tableOut (df := 169) (lo := 0) (hi := 10) (offs := #[57, 65, 73, 81, 89, 97, 109, 121, 133, 145, 157]) (t := 184) (by decide +kernel) (by omega) (by decide) rfl ?_
                          refine pe_bipushv (n := (-2)) (v := (-2)) (by decide +kernel) (by decide +kernel) ?_
                          exact pe_iret (by decide +kernel) rfl rfl ⟨f2, A3, R4, (-2), rfl, hIq1, (fun k n529 n530 n737 n738 => (hGq1 k n529 n530)), (fun k n39 n40 n41 n43 n44 n45 n52 n53 => (hFq1 k n39 n40 n41)), (fun k n0 n1 => (hHq1 k n0)), ⟨trivial, trivial⟩⟩
end
