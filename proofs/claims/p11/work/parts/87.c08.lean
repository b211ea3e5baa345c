set_option maxRecDepth 100000 in
set_option maxHeartbeats 8000000 in
theorem CM_173 {X : pm_X} {d : Nat} {wr : pm_W} {f : Nat → Int32} {A : Nat → List Int32} {R : Nat → Value} {x1 x2 x3 : Int32} (hX : XO X) (hI : CI f A R) : pmE pg X pg_tyl pg_cl (d + 6) 173 0 (pm_ent (pm_max pg 173) [.ref 0, .int x1, .int x2, .int x3]) [] (cd f A R wr) (fun q => ∃ (f' : Nat → Int32) (A' : Nat → List Int32) (R' : Nat → Value) (r : Int32), q = (some (.int r), cd f' A' R' wr, 0, 0) ∧ CI f' A' R' ∧ (∀ k : Nat, k ≠ 529 → k ≠ 530 → k ≠ 1095 → f' k = f k) ∧ (∀ k : Nat, k ≠ 39 → k ≠ 40 → k ≠ 41 → k ≠ 74 → k ≠ 77 → A' k = A k) ∧ (∀ k : Nat, k ≠ 0 → k ≠ 3 → R' k = R k) ∧ ((r = 0 ∧ True) ∨ (r = 1 ∧ (∃ v : Nat, VV v ∧ R' 0 = .ref v ∧ R' 3 = .ref v) ∧ (0 ≤ x3.toInt ∧ x3.toInt ≤ 30)))) := by
  show pmE pg X pg_tyl pg_cl (d + 6) 173 0 [.ref 0, .int x1, .int x2, .int x3] [] (cd f A R wr) _
  refine pe_aload_n (j := 0) (by decide +kernel) rfl ?_
  refine pe_iload_n (j := 1) (by decide +kernel) rfl ?_
  refine pe_iload_n (j := 2) (by decide +kernel) rfl ?_
  refine pe_iload_n (j := 3) (by decide +kernel) rfl ?_
  refine pz_callV (j := 201) (mj := 98) (by decide +kernel) (cll_V (args := [.int x3, .int x2, .int x1]) (n := 3) (by decide +kernel) rfl rfl cd_o0 (by decide +kernel) (Nat.le_of_ble_eq_true rfl) (Nat.le_of_ble_eq_true rfl)) (CM_98 hX hI) (fun q1a q1b q1c q1d hqq1 => ?_)
  obtain ⟨f2, A3, R4, rq1, eq1, hIq1, hGq1, hFq1, hHq1, kq1⟩ := hqq1
  cases eq1
  refine ⟨rfl, rfl, ?_⟩
  rcases kq1 with kq1 | kq1
  · skip
    obtain ⟨erq1, kq1⟩ := kq1
    subst erq1
    show pmE pg X pg_tyl pg_cl (d + 6) 173 7 [.ref 0, .int x1, .int x2, .int x3] [.int 0] (cd f2 A3 R4 wr) _
    refine pz_if_ne (off := 5) (t := 12) (by decide +kernel) (by decide) rfl kz_0 (fun h5 => by omega) (fun h5 => ?_)
    refine pe_iconstv (n := 0) (v := 0) (by decide +kernel) (by decide +kernel) ?_
    exact pe_iret (by decide +kernel) rfl rfl ⟨f2, A3, R4, 0, rfl, hIq1, (fun k n529 n530 n1095 => (hGq1 k n529 n530)), (fun k n39 n40 n41 n74 n77 => (hFq1 k n39 n40 n41)), (fun k n0 n3 => (hHq1 k n0)), Or.inl ⟨rfl, trivial⟩⟩
  · skip
    obtain ⟨erq1, kq1⟩ := kq1
    subst erq1
    obtain ⟨⟨v4, hv4, hR0q1⟩, kq1⟩ := kq1
    have bv4 := VV_b hv4
    show pmE pg X pg_tyl pg_cl (d + 6) 173 7 [.ref 0, .int x1, .int x2, .int x3] [.int 1] (cd f2 A3 R4 wr) _
    refine pz_if_ne (off := 5) (t := 12) (by decide +kernel) (by decide) rfl kz_1 (fun h6 => ?_) (fun h6 => by omega)
    refine pe_aload_n (j := 0) (by decide +kernel) rfl ?_
    refine pe_get (j := 55) (ci := 11) (n := 7) (by decide +kernel) (by decide +kernel) cd_o0 rfl ?_
    refine pe_aload_n (j := 0) (by decide +kernel) rfl ?_
    refine pe_get (j := 34) (ci := 11) (n := 4) (by decide +kernel) (by decide +kernel) cd_o0 rfl ?_
    refine pz_callV (j := 338) (mj := 159) (by decide +kernel) (cll_V (args := [.ref 33]) (n := 1) (by decide +kernel) rfl rfl cd_o68 (by decide +kernel) (Nat.le_of_ble_eq_true rfl) (Nat.le_of_ble_eq_true rfl)) (CM_159 hX hIq1 hv4 (hR0q1)) (fun q7a q7b q7c q7d hqq7 => ?_)
    obtain ⟨f8, A9, R10, eq7, hIq7, hGq7, hFq7, hHq7, hS3q7, kq7⟩ := hqq7
    cases eq7
    refine ⟨rfl, rfl, ?_⟩
    show pmE pg X pg_tyl pg_cl (d + 6) 173 23 [.ref 0, .int x1, .int x2, .int x3] [] (cd f8 A9 R10 wr) _
    refine pe_iconstv (n := 1) (v := 1) (by decide +kernel) (by decide +kernel) ?_
    exact pe_iret (by decide +kernel) rfl rfl ⟨f8, A9, R10, 1, rfl, hIq7, (fun k n529 n530 n1095 => ((hGq7 k n1095)).trans ((hGq1 k n529 n530))), (fun k n39 n40 n41 n74 n77 => ((hFq7 k n74 n77)).trans ((hFq1 k n39 n40 n41))), (fun k n0 n3 => ((hHq7 k n3)).trans ((hHq1 k n0))), Or.inr (⟨rfl, ⟨v4, hv4, ((hHq7 0 (by decide))).trans (hR0q1), hS3q7⟩, (by omega)⟩)⟩
set_option maxRecDepth 100000 in
set_option maxHeartbeats 8000000 in
theorem CM_168 {X : pm_X} {d : Nat} {wr : pm_W} {f : Nat → Int32} {A : Nat → List Int32} {R : Nat → Value} {x1 x2 x3 x4 : Int32} (hX : XO X) (hI : CI f A R) : pmE pg X pg_tyl pg_cl (d + 6) 168 0 (pm_ent (pm_max pg 168) [.ref 0, .int x1, .int x2, .int x3, .int x4]) [] (cd f A R wr) (fun q => ∃ (f' : Nat → Int32) (A' : Nat → List Int32) (R' : Nat → Value) (r : Int32), q = (some (.int r), cd f' A' R' wr, 0, 0) ∧ CI f' A' R' ∧ (∀ k : Nat, k ≠ 529 → k ≠ 530 → k ≠ 1095 → f' k = f k) ∧ (∀ k : Nat, k ≠ 39 → k ≠ 40 → k ≠ 41 → k ≠ 74 → k ≠ 77 → A' k = A k) ∧ (∀ k : Nat, k ≠ 0 → k ≠ 3 → R' k = R k) ∧ ((r = 0 ∧ True) ∨ (r = 1 ∧ (∃ v : Nat, VV v ∧ R' 0 = .ref v ∧ R' 3 = .ref v) ∧ (0 ≤ x3.toInt ∧ x3.toInt ≤ 30) ∧ (0 ≤ x4.toInt ∧ x4.toInt ≤ 127)))) := by
  show pmE pg X pg_tyl pg_cl (d + 6) 168 0 [.ref 0, .int x1, .int x2, .int x3, .int x4] [] (cd f A R wr) _
  refine pe_aload_n (j := 0) (by decide +kernel) rfl ?_
  refine pe_iload_n (j := 1) (by decide +kernel) rfl ?_
  refine pe_iload_n (j := 2) (by decide +kernel) rfl ?_
  refine pe_iload_n (j := 3) (by decide +kernel) rfl ?_
  refine pz_callV (j := 201) (mj := 98) (by decide +kernel) (cll_V (args := [.int x3, .int x2, .int x1]) (n := 3) (by decide +kernel) rfl rfl cd_o0 (by decide +kernel) (Nat.le_of_ble_eq_true rfl) (Nat.le_of_ble_eq_true rfl)) (CM_98 hX hI) (fun q1a q1b q1c q1d hqq1 => ?_)
  obtain ⟨f2, A3, R4, rq1, eq1, hIq1, hGq1, hFq1, hHq1, kq1⟩ := hqq1
  cases eq1
  refine ⟨rfl, rfl, ?_⟩
  rcases kq1 with kq1 | kq1
  · skip
    obtain ⟨erq1, kq1⟩ := kq1
    subst erq1
    show pmE pg X pg_tyl pg_cl (d + 6) 168 7 [.ref 0, .int x1, .int x2, .int x3, .int x4] [.int 0] (cd f2 A3 R4 wr) _
    refine pz_if_eq (off := 25) (t := 32) (by decide +kernel) (by decide) rfl kz_0 (fun h5 => ?_) (fun h5 => by omega)
    refine pe_iconstv (n := 0) (v := 0) (by decide +kernel) (by decide +kernel) ?_
    exact pe_iret (by decide +kernel) rfl rfl ⟨f2, A3, R4, 0, rfl, hIq1, (fun k n529 n530 n1095 => (hGq1 k n529 n530)), (fun k n39 n40 n41 n74 n77 => (hFq1 k n39 n40 n41)), (fun k n0 n3 => (hHq1 k n0)), Or.inl ⟨rfl, trivial⟩⟩
  · skip
    obtain ⟨erq1, kq1⟩ := kq1
    subst erq1
    obtain ⟨⟨v4, hv4, hR0q1⟩, kq1⟩ := kq1
    have bv4 := VV_b hv4
    show pmE pg X pg_tyl pg_cl (d + 6) 168 7 [.ref 0, .int x1, .int x2, .int x3, .int x4] [.int 1] (cd f2 A3 R4 wr) _
    refine pz_if_eq (off := 25) (t := 32) (by decide +kernel) (by decide) rfl kz_1 (fun h6 => by omega) (fun h6 => ?_)
    refine pe_iload (j := 4) (by decide +kernel) rfl ?_
    have lw8 := zi_lo x4
    have uw8 := zi_hi x4
    refine pz_if_lt (off := 20) (t := 32) (by decide +kernel) (by decide) rfl rfl (fun h7 => ?_) (fun h7 => ?_)
    · skip
      refine pe_iconstv (n := 0) (v := 0) (by decide +kernel) (by decide +kernel) ?_
      exact pe_iret (by decide +kernel) rfl rfl ⟨f2, A3, R4, 0, rfl, hIq1, (fun k n529 n530 n1095 => (hGq1 k n529 n530)), (fun k n39 n40 n41 n74 n77 => (hFq1 k n39 n40 n41)), (fun k n0 n3 => (hHq1 k n0)), Or.inl ⟨rfl, trivial⟩⟩
    · skip
      refine pe_iload (j := 4) (by decide +kernel) rfl ?_
      refine pe_iconstv (n := 1) (v := 1) (by decide +kernel) (by decide +kernel) ?_
      refine pe_aload_n (j := 0) (by decide +kernel) rfl ?_
      refine pe_get (j := 34) (ci := 11) (n := 4) (by decide +kernel) (by decide +kernel) cd_o0 rfl ?_
      refine pe_get (j := 287) (ci := 7) (n := 0) (by decide +kernel) (by decide +kernel) cd_o33 rfl ?_
      refine pe_topV (v := .ref v4) (hR0q1) ?_
      refine pe_get (j := 120) (ci := 9) (n := 2) (by decide +kernel) (by decide +kernel) (cv_o hv4) rfl ?_
      have hr_f_16v42 := cv_wants hv4 hI
      refine pe_top (v := (f (16 * v4 + 2))) ((hGq1 (16 * v4 + 2) (by omega) (by omega))) ?_
      refine pz_shl7 (by decide +kernel) rfl (by omega) (by omega) (fun z9 hz9 => ?_)
      refine pz_icmp_lt (off := 5) (t := 34) (by decide +kernel) (by decide) rfl rfl rfl (fun h10 => ?_) (fun h10 => ?_)
      · skip
        refine pe_aload_n (j := 0) (by decide +kernel) rfl ?_
        refine pe_get (j := 55) (ci := 11) (n := 7) (by decide +kernel) (by decide +kernel) cd_o0 rfl ?_
        refine pe_aload_n (j := 0) (by decide +kernel) rfl ?_
        refine pe_get (j := 34) (ci := 11) (n := 4) (by decide +kernel) (by decide +kernel) cd_o0 rfl ?_
        refine pz_callV (j := 338) (mj := 159) (by decide +kernel) (cll_V (args := [.ref 33]) (n := 1) (by decide +kernel) rfl rfl cd_o68 (by decide +kernel) (Nat.le_of_ble_eq_true rfl) (Nat.le_of_ble_eq_true rfl)) (CM_159 hX hIq1 hv4 (hR0q1)) (fun q11a q11b q11c q11d hqq11 => ?_)
        obtain ⟨f12, A13, R14, eq11, hIq11, hGq11, hFq11, hHq11, hS3q11, kq11⟩ := hqq11
        cases eq11
        refine ⟨rfl, rfl, ?_⟩
        show pmE pg X pg_tyl pg_cl (d + 6) 168 45 [.ref 0, .int x1, .int x2, .int x3, .int x4] [] (cd f12 A13 R14 wr) _
        refine pe_iconstv (n := 1) (v := 1) (by decide +kernel) (by decide +kernel) ?_
        exact pe_iret (by decide +kernel) rfl rfl ⟨f12, A13, R14, 1, rfl, hIq11, (fun k n529 n530 n1095 => ((hGq11 k n1095)).trans ((hGq1 k n529 n530))), (fun k n39 n40 n41 n74 n77 => ((hFq11 k n74 n77)).trans ((hFq1 k n39 n40 n41))), (fun k n0 n3 => ((hHq11 k n3)).trans ((hHq1 k n0))), Or.inr (⟨rfl, ⟨v4, hv4, ((hHq11 0 (by decide))).trans (hR0q1), hS3q11⟩, (by omega)⟩)⟩
      · skip
        refine pe_iconstv (n := 0) (v := 0) (by decide +kernel) (by decide +kernel) ?_
        exact pe_iret (by decide +kernel) rfl rfl ⟨f2, A3, R4, 0, rfl, hIq1, (fun k n529 n530 n1095 => (hGq1 k n529 n530)), (fun k n39 n40 n41 n74 n77 => (hFq1 k n39 n40 n41)), (fun k n0 n3 => (hHq1 k n0)), Or.inl ⟨rfl, trivial⟩⟩
set_option maxRecDepth 100000 in
set_option maxHeartbeats 8000000 in
theorem CM_131 {X : pm_X} {d : Nat} {wr : pm_W} {f : Nat → Int32} {A : Nat → List Int32} {R : Nat → Value} {x1 x2 x3 x4 x5 : Int32} (hX : XO X) (hI : CI f A R) : pmE pg X pg_tyl pg_cl (d + 10) 131 0 (pm_ent (pm_max pg 131) [.ref 0, .int x1, .int x2, .int x3, .int x4, .int x5]) [] (cd f A R wr) (fun q => ∃ (f' : Nat → Int32) (A' : Nat → List Int32) (R' : Nat → Value) (r : Int32), q = (some (.int r), cd f' A' R' wr, 0, 0) ∧ CI f' A' R' ∧ (∀ k : Nat, k ≠ 529 → k ≠ 530 → k ≠ 881 → k ≠ 882 → k ≠ 886 → k ≠ 887 → f' k = f k) ∧ (∀ k : Nat, k ≠ 39 → k ≠ 40 → k ≠ 41 → k ≠ 65 → k ≠ 66 → k ≠ 67 → A' k = A k) ∧ (∀ k : Nat, k ≠ 0 → k ≠ 2 → k ≠ 5 → R' k = R k) ∧ ((r = 0 ∧ True) ∨ (r = 1 ∧ (∃ v : Nat, VV v ∧ R' 0 = .ref v) ∧ (0 ≤ x3.toInt ∧ x3.toInt ≤ 30) ∧ (0 ≤ x4.toInt ∧ x4.toInt ≤ 6) ∧ (0 ≤ x5.toInt ∧ x5.toInt ≤ 2)))) := by
  show pmE pg X pg_tyl pg_cl (d + 10) 131 0 [.ref 0, .int x1, .int x2, .int x3, .int x4, .int x5] [] (cd f A R wr) _
  refine pe_iload (j := 5) (by decide +kernel) rfl ?_
  refine pi_S (j := 317) (mj := 132) (by decide +kernel) (by decide +kernel) rfl ?_
  show pmE pg X pg_tyl pg_cl (d + 9) 132 0 [.int x5] [] (cd f A R wr) _
  refine pe_iload_n (j := 0) (by decide +kernel) rfl ?_
  have lw2 := zi_lo x5
  have uw2 := zi_hi x5
  refine pz_if_eq (off := 13) (t := 14) (by decide +kernel) (by decide) rfl rfl (fun h1 => ?_) (fun h1 => ?_)
  · skip
    refine pe_iconstv (n := 1) (v := 1) (by decide +kernel) (by decide +kernel) ?_
    refine pe_goto (off := 4) (t := 19) (by decide +kernel) (by decide) rfl ?_
    refine pe_iret (by decide +kernel) rfl rfl ⟨rfl, rfl, ?_⟩
    show pmE pg X pg_tyl pg_cl (d + 10) 131 5 [.ref 0, .int x1, .int x2, .int x3, .int x4, .int x5] [.int 1] (cd f A R wr) _
    refine pz_if_eq (off := 28) (t := 33) (by decide +kernel) (by decide) rfl kz_1 (fun h3 => by omega) (fun h3 => ?_)
    refine pe_aload_n (j := 0) (by decide +kernel) rfl ?_
    refine pe_iload_n (j := 1) (by decide +kernel) rfl ?_
    refine pe_iload_n (j := 2) (by decide +kernel) rfl ?_
    refine pe_iload_n (j := 3) (by decide +kernel) rfl ?_
    refine pz_callV (j := 201) (mj := 98) (by decide +kernel) (cll_V (args := [.int x3, .int x2, .int x1]) (n := 3) (by decide +kernel) rfl rfl cd_o0 (by decide +kernel) (Nat.le_of_ble_eq_true rfl) (Nat.le_of_ble_eq_true rfl)) (CM_98 hX hI) (fun q4a q4b q4c q4d hqq4 => ?_)
    obtain ⟨f5, A6, R7, rq4, eq4, hIq4, hGq4, hFq4, hHq4, kq4⟩ := hqq4
    cases eq4
    refine ⟨rfl, rfl, ?_⟩
    rcases kq4 with kq4 | kq4
    · skip
      obtain ⟨erq4, kq4⟩ := kq4
      subst erq4
      show pmE pg X pg_tyl pg_cl (d + 10) 131 15 [.ref 0, .int x1, .int x2, .int x3, .int x4, .int x5] [.int 0] (cd f5 A6 R7 wr) _
      refine pz_if_eq (off := 18) (t := 33) (by decide +kernel) (by decide) rfl kz_0 (fun h8 => ?_) (fun h8 => by omega)
      refine pe_iconstv (n := 0) (v := 0) (by decide +kernel) (by decide +kernel) ?_
      exact pe_iret (by decide +kernel) rfl rfl ⟨f5, A6, R7, 0, rfl, hIq4, (fun k n529 n530 n881 n882 n886 n887 => (hGq4 k n529 n530)), (fun k n39 n40 n41 n65 n66 n67 => (hFq4 k n39 n40 n41)), (fun k n0 n2 n5 => (hHq4 k n0)), Or.inl ⟨rfl, trivial⟩⟩
    · skip
      obtain ⟨erq4, kq4⟩ := kq4
      subst erq4
      obtain ⟨⟨v12, hv12, hR0q4⟩, kq4⟩ := kq4
      have bv12 := VV_b hv12
      show pmE pg X pg_tyl pg_cl (d + 10) 131 15 [.ref 0, .int x1, .int x2, .int x3, .int x4, .int x5] [.int 1] (cd f5 A6 R7 wr) _
      refine pz_if_eq (off := 18) (t := 33) (by decide +kernel) (by decide) rfl kz_1 (fun h9 => by omega) (fun h9 => ?_)
      refine pe_aload_n (j := 0) (by decide +kernel) rfl ?_
      refine pe_get (j := 34) (ci := 11) (n := 4) (by decide +kernel) (by decide +kernel) cd_o0 rfl ?_
      refine pe_get (j := 287) (ci := 7) (n := 0) (by decide +kernel) (by decide +kernel) cd_o33 rfl ?_
      refine pe_topV (v := .ref v12) (hR0q4) ?_
      refine pe_iload (j := 4) (by decide +kernel) rfl ?_
      refine pi_V (j := 142) (mj := 64) (by decide +kernel) (cll_V (args := [.int x4]) (n := 1) (by decide +kernel) rfl rfl (cv_o hv12) (by decide +kernel) (Nat.le_of_ble_eq_true rfl) (Nat.le_of_ble_eq_true rfl)) ?_
      show pmE pg X pg_tyl pg_cl (d + 9) 64 0 [.ref v12, .int x4] [] (cd f5 A6 R7 wr) _
      refine pe_iload_n (j := 1) (by decide +kernel) rfl ?_
      have lw11 := zi_lo x4
      have uw11 := zi_hi x4
      refine pz_if_lt (off := 15) (t := 16) (by decide +kernel) (by decide) rfl rfl (fun h10 => ?_) (fun h10 => ?_)
      · skip
        refine pe_iconstv (n := 0) (v := 0) (by decide +kernel) (by decide +kernel) ?_
        refine pe_iret (by decide +kernel) rfl rfl ⟨rfl, rfl, ?_⟩
        show pmE pg X pg_tyl pg_cl (d + 10) 131 30 [.ref 0, .int x1, .int x2, .int x3, .int x4, .int x5] [.int 0] (cd f5 A6 R7 wr) _
        refine pz_if_ne (off := 5) (t := 35) (by decide +kernel) (by decide) rfl kz_0 (fun h12 => by omega) (fun h12 => ?_)
        refine pe_iconstv (n := 0) (v := 0) (by decide +kernel) (by decide +kernel) ?_
        exact pe_iret (by decide +kernel) rfl rfl ⟨f5, A6, R7, 0, rfl, hIq4, (fun k n529 n530 n881 n882 n886 n887 => (hGq4 k n529 n530)), (fun k n39 n40 n41 n65 n66 n67 => (hFq4 k n39 n40 n41)), (fun k n0 n2 n5 => (hHq4 k n0)), Or.inl ⟨rfl, trivial⟩⟩
      · skip
        refine pe_iload_n (j := 1) (by decide +kernel) rfl ?_
        refine pe_aload_n (j := 0) (by decide +kernel) rfl ?_
        refine pe_get (j := 31) (ci := 9) (n := 2) (by decide +kernel) (by decide +kernel) (cv_o hv12) rfl ?_
        have hr_f_16v122 := cv_wants hv12 hI
        refine pe_top (v := (f (16 * v12 + 2))) ((hGq4 (16 * v12 + 2) (by omega) (by omega))) ?_
        refine pz_icmp_ge (off := 7) (t := 16) (by decide +kernel) (by decide) rfl rfl rfl (fun h13 => ?_) (fun h13 => ?_)
        · skip
          refine pe_iconstv (n := 0) (v := 0) (by decide +kernel) (by decide +kernel) ?_
          refine pe_iret (by decide +kernel) rfl rfl ⟨rfl, rfl, ?_⟩
          show pmE pg X pg_tyl pg_cl (d + 10) 131 30 [.ref 0, .int x1, .int x2, .int x3, .int x4, .int x5] [.int 0] (cd f5 A6 R7 wr) _
          refine pz_if_ne (off := 5) (t := 35) (by decide +kernel) (by decide) rfl kz_0 (fun h14 => by omega) (fun h14 => ?_)
          refine pe_iconstv (n := 0) (v := 0) (by decide +kernel) (by decide +kernel) ?_
          exact pe_iret (by decide +kernel) rfl rfl ⟨f5, A6, R7, 0, rfl, hIq4, (fun k n529 n530 n881 n882 n886 n887 => (hGq4 k n529 n530)), (fun k n39 n40 n41 n65 n66 n67 => (hFq4 k n39 n40 n41)), (fun k n0 n2 n5 => (hHq4 k n0)), Or.inl ⟨rfl, trivial⟩⟩
        · skip
          refine pe_iconstv (n := 1) (v := 1) (by decide +kernel) (by decide +kernel) ?_
          refine pe_goto (off := 4) (t := 17) (by decide +kernel) (by decide) rfl ?_
          refine pe_iret (by decide +kernel) rfl rfl ⟨rfl, rfl, ?_⟩
          show pmE pg X pg_tyl pg_cl (d + 10) 131 30 [.ref 0, .int x1, .int x2, .int x3, .int x4, .int x5] [.int 1] (cd f5 A6 R7 wr) _
          refine pz_if_ne (off := 5) (t := 35) (by decide +kernel) (by decide) rfl kz_1 (fun h15 => ?_) (fun h15 => by omega)
          refine pe_aload_n (j := 0) (by decide +kernel) rfl ?_
          refine pe_get (j := 48) (ci := 11) (n := 6) (by decide +kernel) (by decide +kernel) cd_o0 rfl ?_
          refine pe_aload_n (j := 0) (by decide +kernel) rfl ?_
          refine pe_get (j := 34) (ci := 11) (n := 4) (by decide +kernel) (by decide +kernel) cd_o0 rfl ?_
          refine pe_iload (j := 4) (by decide +kernel) rfl ?_
          refine pe_iload (j := 5) (by decide +kernel) rfl ?_
          refine pz_callV (j := 385) (mj := 133) (by decide +kernel) (cll_V (args := [.int x5, .int x4, .ref 33]) (n := 3) (by decide +kernel) rfl rfl cd_o55 (by decide +kernel) (Nat.le_of_ble_eq_true rfl) (Nat.le_of_ble_eq_true rfl)) (CM_133 hX hIq4 hv12 (hR0q4) (by omega)) (fun q16a q16b q16c q16d hqq16 => ?_)
          obtain ⟨f17, A18, R19, rq16, eq16, hIq16, hGq16, hFq16, hHq16, kq16⟩ := hqq16
          cases eq16
          refine ⟨rfl, rfl, ?_⟩
          rcases kq16 with kq16 | kq16
          · skip
            obtain ⟨erq16, kq16⟩ := kq16
            subst erq16
            show pmE pg X pg_tyl pg_cl (d + 10) 131 50 [.ref 0, .int x1, .int x2, .int x3, .int x4, .int x5] [.int 0] (cd f17 A18 R19 wr) _
            exact pe_iret (by decide +kernel) rfl rfl ⟨f17, A18, R19, 0, rfl, hIq16, (fun k n529 n530 n881 n882 n886 n887 => ((hGq16 k n881 n882 n886 n887)).trans ((hGq4 k n529 n530))), (fun k n39 n40 n41 n65 n66 n67 => ((hFq16 k n65 n66 n67)).trans ((hFq4 k n39 n40 n41))), (fun k n0 n2 n5 => ((hHq16 k n2 n5)).trans ((hHq4 k n0))), Or.inl ⟨rfl, trivial⟩⟩
          · skip
            obtain ⟨erq16, kq16⟩ := kq16
            subst erq16
            show pmE pg X pg_tyl pg_cl (d + 10) 131 50 [.ref 0, .int x1, .int x2, .int x3, .int x4, .int x5] [.int 1] (cd f17 A18 R19 wr) _
            exact pe_iret (by decide +kernel) rfl rfl ⟨f17, A18, R19, 1, rfl, hIq16, (fun k n529 n530 n881 n882 n886 n887 => ((hGq16 k n881 n882 n886 n887)).trans ((hGq4 k n529 n530))), (fun k n39 n40 n41 n65 n66 n67 => ((hFq16 k n65 n66 n67)).trans ((hFq4 k n39 n40 n41))), (fun k n0 n2 n5 => ((hHq16 k n2 n5)).trans ((hHq4 k n0))), Or.inr (⟨rfl, ⟨v12, hv12, ((hHq16 0 (by decide) (by decide))).trans (hR0q4)⟩, (by omega)⟩)⟩
  · skip
    refine pe_iload_n (j := 0) (by decide +kernel) rfl ?_
    refine pe_iconstv (n := 1) (v := 1) (by decide +kernel) (by decide +kernel) ?_
    refine pz_icmp_eq (off := 8) (t := 14) (by decide +kernel) (by decide) rfl rfl kz_1 (fun h20 => ?_) (fun h20 => ?_)
    · skip
      refine pe_iconstv (n := 1) (v := 1) (by decide +kernel) (by decide +kernel) ?_
      refine pe_goto (off := 4) (t := 19) (by decide +kernel) (by decide) rfl ?_
      refine pe_iret (by decide +kernel) rfl rfl ⟨rfl, rfl, ?_⟩
      show pmE pg X pg_tyl pg_cl (d + 10) 131 5 [.ref 0, .int x1, .int x2, .int x3, .int x4, .int x5] [.int 1] (cd f A R wr) _
      refine pz_if_eq (off := 28) (t := 33) (by decide +kernel) (by decide) rfl kz_1 (fun h21 => by omega) (fun h21 => ?_)
      refine pe_aload_n (j := 0) (by decide +kernel) rfl ?_
      refine pe_iload_n (j := 1) (by decide +kernel) rfl ?_
      refine pe_iload_n (j := 2) (by decide +kernel) rfl ?_
      refine pe_iload_n (j := 3) (by decide +kernel) rfl ?_
      refine pz_callV (j := 201) (mj := 98) (by decide +kernel) (cll_V (args := [.int x3, .int x2, .int x1]) (n := 3) (by decide +kernel) rfl rfl cd_o0 (by decide +kernel) (Nat.le_of_ble_eq_true rfl) (Nat.le_of_ble_eq_true rfl)) (CM_98 hX hI) (fun q22a q22b q22c q22d hqq22 => ?_)
      obtain ⟨f23, A24, R25, rq22, eq22, hIq22, hGq22, hFq22, hHq22, kq22⟩ := hqq22
      cases eq22
      refine ⟨rfl, rfl, ?_⟩
      rcases kq22 with kq22 | kq22
      · skip
        obtain ⟨erq22, kq22⟩ := kq22
        subst erq22
        show pmE pg X pg_tyl pg_cl (d + 10) 131 15 [.ref 0, .int x1, .int x2, .int x3, .int x4, .int x5] [.int 0] (cd f23 A24 R25 wr) _
        refine pz_if_eq (off := 18) (t := 33) (by decide +kernel) (by decide) rfl kz_0 (fun h26 => ?_) (fun h26 => by omega)
        refine pe_iconstv (n := 0) (v := 0) (by decide +kernel) (by decide +kernel) ?_
        exact pe_iret (by decide +kernel) rfl rfl ⟨f23, A24, R25, 0, rfl, hIq22, (fun k n529 n530 n881 n882 n886 n887 => (hGq22 k n529 n530)), (fun k n39 n40 n41 n65 n66 n67 => (hFq22 k n39 n40 n41)), (fun k n0 n2 n5 => (hHq22 k n0)), Or.inl ⟨rfl, trivial⟩⟩
      · skip
        obtain ⟨erq22, kq22⟩ := kq22
        subst erq22
        obtain ⟨⟨v12, hv12, hR0q22⟩, kq22⟩ := kq22
        have bv12 := VV_b hv12
        show pmE pg X pg_tyl pg_cl (d + 10) 131 15 [.ref 0, .int x1, .int x2, .int x3, .int x4, .int x5] [.int 1] (cd f23 A24 R25 wr) _
        refine pz_if_eq (off := 18) (t := 33) (by decide +kernel) (by decide) rfl kz_1 (fun h27 => by omega) (fun h27 => ?_)
        refine pe_aload_n (j := 0) (by decide +kernel) rfl ?_
        refine pe_get (j := 34) (ci := 11) (n := 4) (by decide +kernel) (by decide +kernel) cd_o0 rfl ?_
        refine pe_get (j := 287) (ci := 7) (n := 0) (by decide +kernel) (by decide +kernel) cd_o33 rfl ?_
        refine pe_topV (v := .ref v12) (hR0q22) ?_
        refine pe_iload (j := 4) (by decide +kernel) rfl ?_
        refine pi_V (j := 142) (mj := 64) (by decide +kernel) (cll_V (args := [.int x4]) (n := 1) (by decide +kernel) rfl rfl (cv_o hv12) (by decide +kernel) (Nat.le_of_ble_eq_true rfl) (Nat.le_of_ble_eq_true rfl)) ?_
        show pmE pg X pg_tyl pg_cl (d + 9) 64 0 [.ref v12, .int x4] [] (cd f23 A24 R25 wr) _
        refine pe_iload_n (j := 1) (by decide +kernel) rfl ?_
        have lw29 := zi_lo x4
        have uw29 := zi_hi x4
        refine pz_if_lt (off := 15) (t := 16) (by decide +kernel) (by decide) rfl rfl (fun h28 => ?_) (fun h28 => ?_)
        · skip
          refine pe_iconstv (n := 0) (v := 0) (by decide +kernel) (by decide +kernel) ?_
          refine pe_iret (by decide +kernel) rfl rfl ⟨rfl, rfl, ?_⟩
          show pmE pg X pg_tyl pg_cl (d + 10) 131 30 [.ref 0, .int x1, .int x2, .int x3, .int x4, .int x5] [.int 0] (cd f23 A24 R25 wr) _
          refine pz_if_ne (off := 5) (t := 35) (by decide +kernel) (by decide) rfl kz_0 (fun h30 => by omega) (fun h30 => ?_)
          refine pe_iconstv (n := 0) (v := 0) (by decide +kernel) (by decide +kernel) ?_
          exact pe_iret (by decide +kernel) rfl rfl ⟨f23, A24, R25, 0, rfl, hIq22, (fun k n529 n530 n881 n882 n886 n887 => (hGq22 k n529 n530)), (fun k n39 n40 n41 n65 n66 n67 => (hFq22 k n39 n40 n41)), (fun k n0 n2 n5 => (hHq22 k n0)), Or.inl ⟨rfl, trivial⟩⟩
        · skip
          refine pe_iload_n (j := 1) (by decide +kernel) rfl ?_
          refine pe_aload_n (j := 0) (by decide +kernel) rfl ?_
          refine pe_get (j := 31) (ci := 9) (n := 2) (by decide +kernel) (by decide +kernel) (cv_o hv12) rfl ?_
          have hr_f_16v122 := cv_wants hv12 hI
          refine pe_top (v := (f (16 * v12 + 2))) ((hGq22 (16 * v12 + 2) (by omega) (by omega))) ?_
          refine pz_icmp_ge (off := 7) (t := 16) (by decide +kernel) (by decide) rfl rfl rfl (fun h31 => ?_) (fun h31 => ?_)
          · skip
            refine pe_iconstv (n := 0) (v := 0) (by decide +kernel) (by decide +kernel) ?_
            refine pe_iret (by decide +kernel) rfl rfl ⟨rfl, rfl, ?_⟩
            show pmE pg X pg_tyl pg_cl (d + 10) 131 30 [.ref 0, .int x1, .int x2, .int x3, .int x4, .int x5] [.int 0] (cd f23 A24 R25 wr) _
            refine pz_if_ne (off := 5) (t := 35) (by decide +kernel) (by decide) rfl kz_0 (fun h32 => by omega) (fun h32 => ?_)
            refine pe_iconstv (n := 0) (v := 0) (by decide +kernel) (by decide +kernel) ?_
            exact pe_iret (by decide +kernel) rfl rfl ⟨f23, A24, R25, 0, rfl, hIq22, (fun k n529 n530 n881 n882 n886 n887 => (hGq22 k n529 n530)), (fun k n39 n40 n41 n65 n66 n67 => (hFq22 k n39 n40 n41)), (fun k n0 n2 n5 => (hHq22 k n0)), Or.inl ⟨rfl, trivial⟩⟩
          · skip
            refine pe_iconstv (n := 1) (v := 1) (by decide +kernel) (by decide +kernel) ?_
            refine pe_goto (off := 4) (t := 17) (by decide +kernel) (by decide) rfl ?_
            refine pe_iret (by decide +kernel) rfl rfl ⟨rfl, rfl, ?_⟩
            show pmE pg X pg_tyl pg_cl (d + 10) 131 30 [.ref 0, .int x1, .int x2, .int x3, .int x4, .int x5] [.int 1] (cd f23 A24 R25 wr) _
            refine pz_if_ne (off := 5) (t := 35) (by decide +kernel) (by decide) rfl kz_1 (fun h33 => ?_) (fun h33 => by omega)
            refine pe_aload_n (j := 0) (by decide +kernel) rfl ?_
            refine pe_get (j := 48) (ci := 11) (n := 6) (by decide +kernel) (by decide +kernel) cd_o0 rfl ?_
            refine pe_aload_n (j := 0) (by decide +kernel) rfl ?_
            refine pe_get (j := 34) (ci := 11) (n := 4) (by decide +kernel) (by decide +kernel) cd_o0 rfl ?_
            refine pe_iload (j := 4) (by decide +kernel) rfl ?_
            refine pe_iload (j := 5) (by decide +kernel) rfl ?_
            refine pz_callV (j := 385) (mj := 133) (by decide +kernel) (cll_V (args := [.int x5, .int x4, .ref 33]) (n := 3) (by decide +kernel) rfl rfl cd_o55 (by decide +kernel) (Nat.le_of_ble_eq_true rfl) (Nat.le_of_ble_eq_true rfl)) (CM_133 hX hIq22 hv12 (hR0q22) (by omega)) (fun q34a q34b q34c q34d hqq34 => ?_)
            obtain ⟨f35, A36, R37, rq34, eq34, hIq34, hGq34, hFq34, hHq34, kq34⟩ := hqq34
            cases eq34
            refine ⟨rfl, rfl, ?_⟩
            rcases kq34 with kq34 | kq34
            · skip
              obtain ⟨erq34, kq34⟩ := kq34
              subst erq34
              show pmE pg X pg_tyl pg_cl (d + 10) 131 50 [.ref 0, .int x1, .int x2, .int x3, .int x4, .int x5] [.int 0] (cd f35 A36 R37 wr) _
              exact pe_iret (by decide +kernel) rfl rfl ⟨f35, A36, R37, 0, rfl, hIq34, (fun k n529 n530 n881 n882 n886 n887 => ((hGq34 k n881 n882 n886 n887)).trans ((hGq22 k n529 n530))), (fun k n39 n40 n41 n65 n66 n67 => ((hFq34 k n65 n66 n67)).trans ((hFq22 k n39 n40 n41))), (fun k n0 n2 n5 => ((hHq34 k n2 n5)).trans ((hHq22 k n0))), Or.inl ⟨rfl, trivial⟩⟩
            · skip
              obtain ⟨erq34, kq34⟩ := kq34
              subst erq34
              show pmE pg X pg_tyl pg_cl (d + 10) 131 50 [.ref 0, .int x1, .int x2, .int x3, .int x4, .int x5] [.int 1] (cd f35 A36 R37 wr) _
              exact pe_iret (by decide +kernel) rfl rfl ⟨f35, A36, R37, 1, rfl, hIq34, (fun k n529 n530 n881 n882 n886 n887 => ((hGq34 k n881 n882 n886 n887)).trans ((hGq22 k n529 n530))), (fun k n39 n40 n41 n65 n66 n67 => ((hFq34 k n65 n66 n67)).trans ((hFq22 k n39 n40 n41))), (fun k n0 n2 n5 => ((hHq34 k n2 n5)).trans ((hHq22 k n0))), Or.inr (⟨rfl, ⟨v12, hv12, ((hHq34 0 (by decide) (by decide))).trans (hR0q22)⟩, (by omega)⟩)⟩
    · skip
      refine pe_iload_n (j := 0) (by decide +kernel) rfl ?_
      refine pe_iconstv (n := 2) (v := 2) (by decide +kernel) (by decide +kernel) ?_
      refine pz_icmp_ne (off := 7) (t := 18) (by decide +kernel) (by decide) rfl rfl kz_2 (fun h38 => ?_) (fun h38 => ?_)
      · skip
        refine pe_iconstv (n := 0) (v := 0) (by decide +kernel) (by decide +kernel) ?_
        refine pe_iret (by decide +kernel) rfl rfl ⟨rfl, rfl, ?_⟩
        show pmE pg X pg_tyl pg_cl (d + 10) 131 5 [.ref 0, .int x1, .int x2, .int x3, .int x4, .int x5] [.int 0] (cd f A R wr) _
        refine pz_if_eq (off := 28) (t := 33) (by decide +kernel) (by decide) rfl kz_0 (fun h39 => ?_) (fun h39 => by omega)
        refine pe_iconstv (n := 0) (v := 0) (by decide +kernel) (by decide +kernel) ?_
        exact pe_iret (by decide +kernel) rfl rfl ⟨f, A, R, 0, rfl, hI, (fun k n529 n530 n881 n882 n886 n887 => rfl), (fun k n39 n40 n41 n65 n66 n67 => rfl), (fun k n0 n2 n5 => rfl), Or.inl ⟨rfl, trivial⟩⟩
      · skip
        refine pe_iconstv (n := 1) (v := 1) (by decide +kernel) (by decide +kernel) ?_
        refine pe_goto (off := 4) (t := 19) (by decide +kernel) (by decide) rfl ?_
        refine pe_iret (by decide +kernel) rfl rfl ⟨rfl, rfl, ?_⟩
        show pmE pg X pg_tyl pg_cl (d + 10) 131 5 [.ref 0, .int x1, .int x2, .int x3, .int x4, .int x5] [.int 1] (cd f A R wr) _
        refine pz_if_eq (off := 28) (t := 33) (by decide +kernel) (by decide) rfl kz_1 (fun h40 => by omega) (fun h40 => ?_)
        refine pe_aload_n (j := 0) (by decide +kernel) rfl ?_
        refine pe_iload_n (j := 1) (by decide +kernel) rfl ?_
        refine pe_iload_n (j := 2) (by decide +kernel) rfl ?_
        refine pe_iload_n (j := 3) (by decide +kernel) rfl ?_
        refine pz_callV (j := 201) (mj := 98) (by decide +kernel) (cll_V (args := [.int x3, .int x2, .int x1]) (n := 3) (by decide +kernel) rfl rfl cd_o0 (by decide +kernel) (Nat.le_of_ble_eq_true rfl) (Nat.le_of_ble_eq_true rfl)) (CM_98 hX hI) (fun q41a q41b q41c q41d hqq41 => ?_)
        obtain ⟨f42, A43, R44, rq41, eq41, hIq41, hGq41, hFq41, hHq41, kq41⟩ := hqq41
        cases eq41
        refine ⟨rfl, rfl, ?_⟩
        rcases kq41 with kq41 | kq41
        · skip
          obtain ⟨erq41, kq41⟩ := kq41
          subst erq41
          show pmE pg X pg_tyl pg_cl (d + 10) 131 15 [.ref 0, .int x1, .int x2, .int x3, .int x4, .int x5] [.int 0] (cd f42 A43 R44 wr) _
          refine pz_if_eq (off := 18) (t := 33) (by decide +kernel) (by decide) rfl kz_0 (fun h45 => ?_) (fun h45 => by omega)
          refine pe_iconstv (n := 0) (v := 0) (by decide +kernel) (by decide +kernel) ?_
          exact pe_iret (by decide +kernel) rfl rfl ⟨f42, A43, R44, 0, rfl, hIq41, (fun k n529 n530 n881 n882 n886 n887 => (hGq41 k n529 n530)), (fun k n39 n40 n41 n65 n66 n67 => (hFq41 k n39 n40 n41)), (fun k n0 n2 n5 => (hHq41 k n0)), Or.inl ⟨rfl, trivial⟩⟩
        · skip
          obtain ⟨erq41, kq41⟩ := kq41
          subst erq41
          obtain ⟨⟨v12, hv12, hR0q41⟩, kq41⟩ := kq41
          have bv12 := VV_b hv12
          show pmE pg X pg_tyl pg_cl (d + 10) 131 15 [.ref 0, .int x1, .int x2, .int x3, .int x4, .int x5] [.int 1] (cd f42 A43 R44 wr) _
          refine pz_if_eq (off := 18) (t := 33) (by decide +kernel) (by decide) rfl kz_1 (fun h46 => by omega) (fun h46 => ?_)
          refine pe_aload_n (j := 0) (by decide +kernel) rfl ?_
          refine pe_get (j := 34) (ci := 11) (n := 4) (by decide +kernel) (by decide +kernel) cd_o0 rfl ?_
          refine pe_get (j := 287) (ci := 7) (n := 0) (by decide +kernel) (by decide +kernel) cd_o33 rfl ?_
          refine pe_topV (v := .ref v12) (hR0q41) ?_
          refine pe_iload (j := 4) (by decide +kernel) rfl ?_
          refine pi_V (j := 142) (mj := 64) (by decide +kernel) (cll_V (args := [.int x4]) (n := 1) (by decide +kernel) rfl rfl (cv_o hv12) (by decide +kernel) (Nat.le_of_ble_eq_true rfl) (Nat.le_of_ble_eq_true rfl)) ?_
          show pmE pg X pg_tyl pg_cl (d + 9) 64 0 [.ref v12, .int x4] [] (cd f42 A43 R44 wr) _
          refine pe_iload_n (j := 1) (by decide +kernel) rfl ?_
          have lw48 := zi_lo x4
          have uw48 := zi_hi x4
          refine pz_if_lt (off := 15) (t := 16) (by decide +kernel) (by decide) rfl rfl (fun h47 => ?_) (fun h47 => ?_)
          · skip
            refine pe_iconstv (n := 0) (v := 0) (by decide +kernel) (by decide +kernel) ?_
            refine pe_iret (by decide +kernel) rfl rfl ⟨rfl, rfl, ?_⟩
            show pmE pg X pg_tyl pg_cl (d + 10) 131 30 [.ref 0, .int x1, .int x2, .int x3, .int x4, .int x5] [.int 0] (cd f42 A43 R44 wr) _
            refine pz_if_ne (off := 5) (t := 35) (by decide +kernel) (by decide) rfl kz_0 (fun h49 => by omega) (fun h49 => ?_)
            refine pe_iconstv (n := 0) (v := 0) (by decide +kernel) (by decide +kernel) ?_
            exact pe_iret (by decide +kernel) rfl rfl ⟨f42, A43, R44, 0, rfl, hIq41, (fun k n529 n530 n881 n882 n886 n887 => (hGq41 k n529 n530)), (fun k n39 n40 n41 n65 n66 n67 => (hFq41 k n39 n40 n41)), (fun k n0 n2 n5 => (hHq41 k n0)), Or.inl ⟨rfl, trivial⟩⟩
          · skip
            refine pe_iload_n (j := 1) (by decide +kernel) rfl ?_
            refine pe_aload_n (j := 0) (by decide +kernel) rfl ?_
            refine pe_get (j := 31) (ci := 9) (n := 2) (by decide +kernel) (by decide +kernel) (cv_o hv12) rfl ?_
            have hr_f_16v122 := cv_wants hv12 hI
            refine pe_top (v := (f (16 * v12 + 2))) ((hGq41 (16 * v12 + 2) (by omega) (by omega))) ?_
            refine pz_icmp_ge (off := 7) (t := 16) (by decide +kernel) (by decide) rfl rfl rfl (fun h50 => ?_) (fun h50 => ?_)
            · skip
              refine pe_iconstv (n := 0) (v := 0) (by decide +kernel) (by decide +kernel) ?_
              refine pe_iret (by decide +kernel) rfl rfl ⟨rfl, rfl, ?_⟩
              show pmE pg X pg_tyl pg_cl (d + 10) 131 30 [.ref 0, .int x1, .int x2, .int x3, .int x4, .int x5] [.int 0] (cd f42 A43 R44 wr) _
              refine pz_if_ne (off := 5) (t := 35) (by decide +kernel) (by decide) rfl kz_0 (fun h51 => by omega) (fun h51 => ?_)
              refine pe_iconstv (n := 0) (v := 0) (by decide +kernel) (by decide +kernel) ?_
              exact pe_iret (by decide +kernel) rfl rfl ⟨f42, A43, R44, 0, rfl, hIq41, (fun k n529 n530 n881 n882 n886 n887 => (hGq41 k n529 n530)), (fun k n39 n40 n41 n65 n66 n67 => (hFq41 k n39 n40 n41)), (fun k n0 n2 n5 => (hHq41 k n0)), Or.inl ⟨rfl, trivial⟩⟩
            · skip
              refine pe_iconstv (n := 1) (v := 1) (by decide +kernel) (by decide +kernel) ?_
              refine pe_goto (off := 4) (t := 17) (by decide +kernel) (by decide) rfl ?_
              refine pe_iret (by decide +kernel) rfl rfl ⟨rfl, rfl, ?_⟩
              show pmE pg X pg_tyl pg_cl (d + 10) 131 30 [.ref 0, .int x1, .int x2, .int x3, .int x4, .int x5] [.int 1] (cd f42 A43 R44 wr) _
              refine pz_if_ne (off := 5) (t := 35) (by decide +kernel) (by decide) rfl kz_1 (fun h52 => ?_) (fun h52 => by omega)
              refine pe_aload_n (j := 0) (by decide +kernel) rfl ?_
              refine pe_get (j := 48) (ci := 11) (n := 6) (by decide +kernel) (by decide +kernel) cd_o0 rfl ?_
              refine pe_aload_n (j := 0) (by decide +kernel) rfl ?_
              refine pe_get (j := 34) (ci := 11) (n := 4) (by decide +kernel) (by decide +kernel) cd_o0 rfl ?_
              refine pe_iload (j := 4) (by decide +kernel) rfl ?_
              refine pe_iload (j := 5) (by decide +kernel) rfl ?_
              refine pz_callV (j := 385) (mj := 133) (by decide +kernel) (cll_V (args := [.int x5, .int x4, .ref 33]) (n := 3) (by decide +kernel) rfl rfl cd_o55 (by decide +kernel) (Nat.le_of_ble_eq_true rfl) (Nat.le_of_ble_eq_true rfl)) (CM_133 hX hIq41 hv12 (hR0q41) (by omega)) (fun q53a q53b q53c q53d hqq53 => ?_)
              obtain ⟨f54, A55, R56, rq53, eq53, hIq53, hGq53, hFq53, hHq53, kq53⟩ := hqq53
              cases eq53
              refine ⟨rfl, rfl, ?_⟩
              rcases kq53 with kq53 | kq53
              · skip
                obtain ⟨erq53, kq53⟩ := kq53
                subst erq53
                show pmE pg X pg_tyl pg_cl (d + 10) 131 50 [.ref 0, .int x1, .int x2, .int x3, .int x4, .int x5] [.int 0] (cd f54 A55 R56 wr) _
                exact pe_iret (by decide +kernel) rfl rfl ⟨f54, A55, R56, 0, rfl, hIq53, (fun k n529 n530 n881 n882 n886 n887 => ((hGq53 k n881 n882 n886 n887)).trans ((hGq41 k n529 n530))), (fun k n39 n40 n41 n65 n66 n67 => ((hFq53 k n65 n66 n67)).trans ((hFq41 k n39 n40 n41))), (fun k n0 n2 n5 => ((hHq53 k n2 n5)).trans ((hHq41 k n0))), Or.inl ⟨rfl, trivial⟩⟩
              · skip
                obtain ⟨erq53, kq53⟩ := kq53
                subst erq53
                show pmE pg X pg_tyl pg_cl (d + 10) 131 50 [.ref 0, .int x1, .int x2, .int x3, .int x4, .int x5] [.int 1] (cd f54 A55 R56 wr) _
                exact pe_iret (by decide +kernel) rfl rfl ⟨f54, A55, R56, 1, rfl, hIq53, (fun k n529 n530 n881 n882 n886 n887 => ((hGq53 k n881 n882 n886 n887)).trans ((hGq41 k n529 n530))), (fun k n39 n40 n41 n65 n66 n67 => ((hFq53 k n65 n66 n67)).trans ((hFq41 k n39 n40 n41))), (fun k n0 n2 n5 => ((hHq53 k n2 n5)).trans ((hHq41 k n0))), Or.inr (⟨rfl, ⟨v12, hv12, ((hHq53 0 (by decide) (by decide))).trans (hR0q41)⟩, (by omega)⟩)⟩
set_option maxRecDepth 100000 in
set_option maxHeartbeats 8000000 in
theorem CL_154_16 {X : pm_X} {d : Nat} {wr : pm_W} {Q : pm_R → Prop} {f : Nat → Int32} {A0 : Nat → List Int32} {R : Nat → Value} {x1 x2 : Int32} {v : Nat} (hX : XO X) (hv : VV v) (hR0 : R 0 = .ref v) (gx1 : (2 ≤ x1.toInt ∧ x1.toInt ≤ 6)) (gx2 : (0 ≤ x2.toInt)) (k_83_0 : ∀ (A' : Nat → List Int32) (y3 : Int32) (y4 : Int32) (y5 : Int32) (v6 : Value), CI f A' R → (∀ k : Nat, k ≠ 86 → A' k = A0 k) → (0 ≤ y3.toInt) → ((-1) ≤ y5.toInt ∧ y5.toInt ≤ (-1)) → pmE pg X pg_tyl pg_cl (d + 1) 154 83 [.ref 0, .int x1, .int x2, .int y3, .int y4, .int y5, v6] [] (cd f A' R wr) Q) (kr_0 : ∀ (A' : Nat → List Int32), CI f A' R → (∀ k : Nat, k ≠ 86 → A' k = A0 k) → Q (some (.int 0), cd f A' R wr, 0, 0)) : ∀ (m : Nat) (A : Nat → List Int32) (x3 : Int32) (x4 : Int32) (x5 : Int32) (u6 : Value), CI f A R → (∀ k : Nat, k ≠ 86 → A k = A0 k) → (0 ≤ x3.toInt) → ((-1) ≤ x5.toInt ∧ x5.toInt ≤ 5) → x5.toInt - (-1) < (m : Int) → pmE pg X pg_tyl pg_cl (d + 1) 154 16 [.ref 0, .int x1, .int x2, .int x3, .int x4, .int x5, u6] [] (cd f A R wr) Q := by
  have bv := VV_b hv
  intro m
  induction m with
  | zero =>
    intro A x3 x4 x5 u6 hI hF gx3 gx5 hm
    exfalso
    have l0 := zi_lo x5
    have u0 := zi_hi x5
    omega
  | succ m ih =>
    intro A x3 x4 x5 u6 hI hF gx3 gx5 hm
    refine pe_iload (j := 5) (by decide +kernel) rfl ?_
    refine pz_if_lt (off := 65) (t := 83) (by decide +kernel) (by decide) rfl rfl (fun h1 => ?_) (fun h1 => ?_)
    · skip
      exact k_83_0 A x3 x4 x5 (u6) hI (fun k n86 => (hF k n86)) (by omega) (by omega)
    · skip
      refine pe_iload_n (j := 3) (by decide +kernel) rfl ?_
      refine pe_bipushv (n := 10) (v := 10) (by decide +kernel) (by decide +kernel) ?_
      refine pz_rem (by decide +kernel) rfl kz_10 (by omega) (by omega) (fun z2 hz2 gz2 kz2 => ?_)
      refine pe_istore (j := 6) (ls' := [.ref 0, .int x1, .int x2, .int x3, .int x4, .int x5, .int z2]) (by decide +kernel) (Nat.le_of_ble_eq_true rfl) rfl ?_
      refine pe_iload_n (j := 3) (by decide +kernel) rfl ?_
      refine pe_bipushv (n := 10) (v := 10) (by decide +kernel) (by decide +kernel) ?_
      refine pz_div (by decide +kernel) rfl kz_10 (by omega) (by omega) (fun z3 hz3 => ?_)
      refine pe_istore_n (j := 3) (ls' := [.ref 0, .int x1, .int x2, .int z3, .int x4, .int x5, .int z2]) (by decide +kernel) (Nat.le_of_ble_eq_true rfl) rfl ?_
      refine pe_aload_n (j := 0) (by decide +kernel) rfl ?_
      refine pe_get (j := 34) (ci := 11) (n := 4) (by decide +kernel) (by decide +kernel) cd_o0 rfl ?_
      refine pe_get (j := 287) (ci := 7) (n := 0) (by decide +kernel) (by decide +kernel) cd_o33 rfl ?_
      refine pe_topV (v := .ref v) (hR0) ?_
      refine pe_iload (j := 6) (by decide +kernel) rfl ?_
      refine pi_V (j := 126) (mj := 61) (by decide +kernel) (cll_V (args := [.int z2]) (n := 1) (by decide +kernel) rfl rfl (cv_o hv) (by decide +kernel) (Nat.le_of_ble_eq_true rfl) (Nat.le_of_ble_eq_true rfl)) ?_
      show pmE pg X pg_tyl pg_cl (d) 61 0 [.ref v, .int z2] [] (cd f A R wr) _
      refine pe_iload_n (j := 1) (by decide +kernel) rfl ?_
      refine pz_if_lt (off := 15) (t := 16) (by decide +kernel) (by decide) rfl rfl (fun h4 => by omega) (fun h4 => ?_)
      refine pe_iload_n (j := 1) (by decide +kernel) rfl ?_
      refine pe_aload_n (j := 0) (by decide +kernel) rfl ?_
      refine pe_get (j := 9) (ci := 9) (n := 0) (by decide +kernel) (by decide +kernel) (cv_o hv) rfl ?_
      have hr_f_16v := cv_people hv hI
      refine pz_icmp_ge (off := 7) (t := 16) (by decide +kernel) (by decide) rfl rfl rfl (fun h5 => ?_) (fun h5 => ?_)
      · skip
        refine pe_iconstv (n := 0) (v := 0) (by decide +kernel) (by decide +kernel) ?_
        refine pe_iret (by decide +kernel) rfl rfl ⟨rfl, rfl, ?_⟩
        show pmE pg X pg_tyl pg_cl (d + 1) 154 44 [.ref 0, .int x1, .int x2, .int z3, .int x4, .int x5, .int z2] [.int 0] (cd f A R wr) _
        refine pz_if_eq (off := 13) (t := 57) (by decide +kernel) (by decide) rfl kz_0 (fun h6 => ?_) (fun h6 => by omega)
        refine pe_iconstv (n := 0) (v := 0) (by decide +kernel) (by decide +kernel) ?_
        exact pe_iret (by decide +kernel) rfl rfl (kr_0 A hI (fun k n86 => (hF k n86)))
      · skip
        refine pe_iconstv (n := 1) (v := 1) (by decide +kernel) (by decide +kernel) ?_
        refine pe_goto (off := 4) (t := 17) (by decide +kernel) (by decide) rfl ?_
        refine pe_iret (by decide +kernel) rfl rfl ⟨rfl, rfl, ?_⟩
        show pmE pg X pg_tyl pg_cl (d + 1) 154 44 [.ref 0, .int x1, .int x2, .int z3, .int x4, .int x5, .int z2] [.int 1] (cd f A R wr) _
        refine pz_if_eq (off := 13) (t := 57) (by decide +kernel) (by decide) rfl kz_1 (fun h7 => by omega) (fun h7 => ?_)
        refine pe_iload (j := 4) (by decide +kernel) rfl ?_
        refine pe_iload (j := 6) (by decide +kernel) rfl ?_
        refine pi_S (j := 294) (mj := 89) (by decide +kernel) (by decide +kernel) rfl ?_
        show pmE pg X pg_tyl pg_cl (d) 89 0 [.int x4, .int z2] [] (cd f A R wr) _
        refine pe_iload_n (j := 0) (by decide +kernel) rfl ?_
        refine pe_iload_n (j := 1) (by decide +kernel) rfl ?_
        refine pw_shr (by decide +kernel) (fun z8 => ?_)
        refine pe_iconstv (n := 1) (v := 1) (by decide +kernel) (by decide +kernel) ?_
        refine pz_and1 (by decide +kernel) (fun z9 hz9 => ?_)
        refine pz_if_eq (off := 7) (t := 12) (by decide +kernel) (by decide) rfl rfl (fun h10 => ?_) (fun h10 => ?_)
        · skip
          refine pe_iconstv (n := 0) (v := 0) (by decide +kernel) (by decide +kernel) ?_
          refine pe_iret (by decide +kernel) rfl rfl ⟨rfl, rfl, ?_⟩
          show pmE pg X pg_tyl pg_cl (d + 1) 154 54 [.ref 0, .int x1, .int x2, .int z3, .int x4, .int x5, .int z2] [.int 0] (cd f A R wr) _
          refine pz_if_eq (off := 5) (t := 59) (by decide +kernel) (by decide) rfl kz_0 (fun h11 => ?_) (fun h11 => by omega)
          refine pe_iload (j := 4) (by decide +kernel) rfl ?_
          refine pe_iconstv (n := 1) (v := 1) (by decide +kernel) (by decide +kernel) ?_
          refine pe_iload (j := 6) (by decide +kernel) rfl ?_
          refine pz_shl1 (by decide +kernel) rfl (by omega) (by omega) (fun z12 hz12 => ?_)
          refine pw_or (by decide +kernel) (fun z13 => ?_)
          refine pe_istore (j := 4) (ls' := [.ref 0, .int x1, .int x2, .int z3, .int z13, .int x5, .int z2]) (by decide +kernel) (Nat.le_of_ble_eq_true rfl) rfl ?_
          refine pe_aload_n (j := 0) (by decide +kernel) rfl ?_
          refine pe_get (j := 73) (ci := 11) (n := 10) (by decide +kernel) (by decide +kernel) cd_o0 rfl ?_
          refine pe_iload (j := 5) (by decide +kernel) rfl ?_
          refine pe_iload (j := 6) (by decide +kernel) rfl ?_
          refine cz_st86 (by decide +kernel) hI rfl (by omega) (by omega) (fun A14 eA14 hIA14 => ?_)
          refine pz_iinc (j := 5) (n := (-1)) (by decide +kernel) rfl rfl (by decide +kernel) (by omega) (by omega) (fun z15 hz15 => ?_)
          show pmE pg X pg_tyl pg_cl (d + 1) 154 80 [.ref 0, .int x1, .int x2, .int z3, .int z13, .int z15, .int z2] [] (cd f A14 R wr) _
          refine pe_goto (off := (-64)) (t := 16) (by decide +kernel) (by decide) rfl ?_
          exact ih A14 z3 z13 z15 (.int z2) hIA14 (fun k n86 => (upa_fr eA14 n86).trans ((hF k n86))) (by omega) (by omega) (by omega)
        · skip
          refine pe_iconstv (n := 1) (v := 1) (by decide +kernel) (by decide +kernel) ?_
          refine pe_goto (off := 4) (t := 13) (by decide +kernel) (by decide) rfl ?_
          refine pe_iret (by decide +kernel) rfl rfl ⟨rfl, rfl, ?_⟩
          show pmE pg X pg_tyl pg_cl (d + 1) 154 54 [.ref 0, .int x1, .int x2, .int z3, .int x4, .int x5, .int z2] [.int 1] (cd f A R wr) _
          refine pz_if_eq (off := 5) (t := 59) (by decide +kernel) (by decide) rfl kz_1 (fun h16 => by omega) (fun h16 => ?_)
          refine pe_iconstv (n := 0) (v := 0) (by decide +kernel) (by decide +kernel) ?_
          exact pe_iret (by decide +kernel) rfl rfl (kr_0 A hI (fun k n86 => (hF k n86)))
set_option maxRecDepth 100000 in
set_option maxHeartbeats 8000000 in
theorem CM_154 {X : pm_X} {d : Nat} {wr : pm_W} {f : Nat → Int32} {A : Nat → List Int32} {R : Nat → Value} {x1 x2 : Int32} {v : Nat} (hX : XO X) (hI : CI f A R) (hv : VV v) (hR0 : R 0 = .ref v) (gx1 : (2 ≤ x1.toInt ∧ x1.toInt ≤ 6)) : pmE pg X pg_tyl pg_cl (d + 1) 154 0 (pm_ent (pm_max pg 154) [.ref 0, .int x1, .int x2]) [] (cd f A R wr) (fun q => ∃ (A' : Nat → List Int32) (r : Int32), q = (some (.int r), cd f A' R wr, 0, 0) ∧ CI f A' R ∧ (∀ k : Nat, k ≠ 86 → A' k = A k) ∧ ((r = 0 ∧ True) ∨ (r = 1 ∧ (0 ≤ x2.toInt)))) := by
  have bv := VV_b hv
  show pmE pg X pg_tyl pg_cl (d + 1) 154 0 [.ref 0, .int x1, .int x2, pm_dead, pm_dead, pm_dead, pm_dead] [] (cd f A R wr) _
  refine pe_iload_n (j := 2) (by decide +kernel) rfl ?_
  have lw2 := zi_lo x2
  have uw2 := zi_hi x2
  refine pz_if_ge (off := 5) (t := 6) (by decide +kernel) (by decide) rfl rfl (fun h1 => ?_) (fun h1 => ?_)
  · skip
    refine pe_iload_n (j := 2) (by decide +kernel) rfl ?_
    refine pe_istore_n (j := 3) (ls' := [.ref 0, .int x1, .int x2, .int x2, pm_dead, pm_dead, pm_dead]) (by decide +kernel) (Nat.le_of_ble_eq_true rfl) rfl ?_
    refine pe_iconstv (n := 0) (v := 0) (by decide +kernel) (by decide +kernel) ?_
    refine pe_istore (j := 4) (ls' := [.ref 0, .int x1, .int x2, .int x2, .int 0, pm_dead, pm_dead]) (by decide +kernel) (Nat.le_of_ble_eq_true rfl) rfl ?_
    refine pe_iload_n (j := 1) (by decide +kernel) rfl ?_
    refine pe_iconstv (n := 1) (v := 1) (by decide +kernel) (by decide +kernel) ?_
    refine pz_sub (by decide +kernel) rfl kz_1 (by omega) (by omega) (fun z3 hz3 => ?_)
    refine pe_istore (j := 5) (ls' := [.ref 0, .int x1, .int x2, .int x2, .int 0, .int z3, pm_dead]) (by decide +kernel) (Nat.le_of_ble_eq_true rfl) rfl ?_
    refine CL_154_16 hX hv (hR0) (by omega) (by omega) (fun A4 y5 y6 y7 u8 hIy9 hFA4 gy5 gy7 => ?_) (fun A10 hIy11 hFA10 => ⟨A10, 0, rfl, hIy11, (fun k n86 => (hFA10 k n86)), Or.inl ⟨rfl, trivial⟩⟩) 7 A x2 0 z3 (pm_dead) hI (fun k _ => rfl) (by omega) (by omega) (by have l0 := zi_lo z3; have u0 := zi_hi z3; omega)
    refine pe_iload_n (j := 3) (by decide +kernel) rfl ?_
    have lw13 := zi_lo y5
    have uw13 := zi_hi y5
    refine pz_if_ne (off := 7) (t := 91) (by decide +kernel) (by decide) rfl rfl (fun h12 => ?_) (fun h12 => ?_)
    · skip
      refine pe_iconstv (n := 0) (v := 0) (by decide +kernel) (by decide +kernel) ?_
      exact pe_iret (by decide +kernel) rfl rfl ⟨A4, 0, rfl, hIy9, (fun k n86 => (hFA4 k n86)), Or.inl ⟨rfl, trivial⟩⟩
    · skip
      refine pe_iconstv (n := 1) (v := 1) (by decide +kernel) (by decide +kernel) ?_
      refine pe_goto (off := 4) (t := 92) (by decide +kernel) (by decide) rfl ?_
      exact pe_iret (by decide +kernel) rfl rfl ⟨A4, 1, rfl, hIy9, (fun k n86 => (hFA4 k n86)), Or.inr (⟨rfl, (by omega)⟩)⟩
  · skip
    refine pe_iconstv (n := 0) (v := 0) (by decide +kernel) (by decide +kernel) ?_
    exact pe_iret (by decide +kernel) rfl rfl ⟨A, 0, rfl, hI, (fun k n86 => rfl), Or.inl ⟨rfl, trivial⟩⟩
set_option maxRecDepth 100000 in
set_option maxHeartbeats 8000000 in
theorem CM_58 {X : pm_X} {d : Nat} {wr : pm_W} {f : Nat → Int32} {A : Nat → List Int32} {R : Nat → Value} {x1 : Int32} (hX : XO X) (hI : CI f A R) : pmE pg X pg_tyl pg_cl (d) 58 0 (pm_ent (pm_max pg 58) [.ref 0, .int x1]) [] (cd f A R wr) (fun q => ∃ (r : Int32), q = (some (.int r), cd f A R wr, 0, 0) ∧ ((True ∧ True))) := by
  show pmE pg X pg_tyl pg_cl (d) 58 0 [.ref 0, .int x1] [] (cd f A R wr) _
  refine pe_iload_n (j := 1) (by decide +kernel) rfl ?_
  have lw2 := zi_lo x1
  have uw2 := zi_hi x1
  refine pz_if_ne (off := 11) (t := 12) (by decide +kernel) (by decide) rfl rfl (fun h1 => ?_) (fun h1 => ?_)
  · skip
    refine pe_iload_n (j := 1) (by decide +kernel) rfl ?_
    refine pe_iconstv (n := 1) (v := 1) (by decide +kernel) (by decide +kernel) ?_
    refine pz_icmp_ne (off := 13) (t := 27) (by decide +kernel) (by decide) rfl rfl kz_1 (fun h3 => ?_) (fun h3 => ?_)
    · skip
      refine pe_iconstv (n := (-1)) (v := (-1)) (by decide +kernel) (by decide +kernel) ?_
      exact pe_iret (by decide +kernel) rfl rfl ⟨(-1), rfl, ⟨trivial, trivial⟩⟩
    · skip
      refine pe_aload_n (j := 0) (by decide +kernel) rfl ?_
      refine pe_get (j := 12) (ci := 11) (n := 0) (by decide +kernel) (by decide +kernel) cd_o0 rfl ?_
      refine pe_get (j := 88) (ci := 8) (n := 7) (by decide +kernel) (by decide +kernel) cd_o1 rfl ?_
      refine pe_goto (off := 4) (t := 28) (by decide +kernel) (by decide) rfl ?_
      exact pe_iret (by decide +kernel) rfl rfl ⟨(f 23), rfl, ⟨trivial, trivial⟩⟩
  · skip
    refine pe_aload_n (j := 0) (by decide +kernel) rfl ?_
    refine pe_get (j := 12) (ci := 11) (n := 0) (by decide +kernel) (by decide +kernel) cd_o0 rfl ?_
    refine pe_get (j := 85) (ci := 8) (n := 6) (by decide +kernel) (by decide +kernel) cd_o1 rfl ?_
    exact pe_iret (by decide +kernel) rfl rfl ⟨(f 22), rfl, ⟨trivial, trivial⟩⟩
set_option maxRecDepth 100000 in
set_option maxHeartbeats 8000000 in
theorem CM_59 {X : pm_X} {d : Nat} {wr : pm_W} {f : Nat → Int32} {A : Nat → List Int32} {R : Nat → Value} {x1 x2 : Int32} (hX : XO X) (hI : CI f A R) : pmE pg X pg_tyl pg_cl (d + 1) 59 0 (pm_ent (pm_max pg 59) [.ref 0, .int x1, .int x2]) [] (cd f A R wr) (fun q => ∃ (r : Int32), q = (some (.int r), cd f A R wr, 0, 0) ∧ ((True ∧ True))) := by
  show pmE pg X pg_tyl pg_cl (d + 1) 59 0 [.ref 0, .int x1, .int x2, pm_dead] [] (cd f A R wr) _
  refine pe_aload_n (j := 0) (by decide +kernel) rfl ?_
  refine pe_get (j := 12) (ci := 11) (n := 0) (by decide +kernel) (by decide +kernel) cd_o0 rfl ?_
  refine pe_iload_n (j := 1) (by decide +kernel) rfl ?_
  refine pz_callV (j := 111) (mj := 60) (by decide +kernel) (cll_V (args := [.int x1]) (n := 1) (by decide +kernel) rfl rfl cd_o1 (by decide +kernel) (Nat.le_of_ble_eq_true rfl) (Nat.le_of_ble_eq_true rfl)) (CM_atV hI) (fun q1a q1b q1c q1d hqq1 => ?_)
  obtain ⟨rq1, eq1, kq1⟩ := hqq1
  cases eq1
  rcases kq1 with rfl | ⟨v5, hv5, rfl⟩
  · skip
    refine ⟨rfl, rfl, ?_⟩
    show pmE pg X pg_tyl pg_cl (d + 1) 59 8 [.ref 0, .int x1, .int x2, pm_dead] [.null] (cd f A R wr) _
    refine pe_astoreN_n (j := 3) (ls' := [.ref 0, .int x1, .int x2, .null]) (by decide +kernel) (Nat.le_of_ble_eq_true rfl) rfl ?_
    refine pe_aloadN_n (j := 3) (by decide +kernel) rfl ?_
    refine pe_ifnonnullN (off := 5) (by decide +kernel) ?_
    refine pe_iconstv (n := (-1)) (v := (-1)) (by decide +kernel) (by decide +kernel) ?_
    exact pe_iret (by decide +kernel) rfl rfl ⟨(-1), rfl, ⟨trivial, trivial⟩⟩
  · skip
    have bv5 := VV_b hv5
    refine ⟨rfl, rfl, ?_⟩
    show pmE pg X pg_tyl pg_cl (d + 1) 59 8 [.ref 0, .int x1, .int x2, pm_dead] [.ref v5] (cd f A R wr) _
    refine pe_astore_n (j := 3) (ls' := [.ref 0, .int x1, .int x2, .ref v5]) (by decide +kernel) (Nat.le_of_ble_eq_true rfl) rfl ?_
    refine pe_aload_n (j := 3) (by decide +kernel) rfl ?_
    refine pe_ifnonnull (off := 5) (t := 15) (by decide +kernel) (by decide) rfl ?_
    refine pe_iload_n (j := 2) (by decide +kernel) rfl ?_
    have lw3 := zi_lo x2
    have uw3 := zi_hi x2
    refine pz_if_ne (off := 8) (t := 24) (by decide +kernel) (by decide) rfl rfl (fun h2 => ?_) (fun h2 => ?_)
    · skip
      refine pe_iload_n (j := 2) (by decide +kernel) rfl ?_
      refine pe_iconstv (n := 1) (v := 1) (by decide +kernel) (by decide +kernel) ?_
      refine pz_icmp_ne (off := 8) (t := 34) (by decide +kernel) (by decide) rfl rfl kz_1 (fun h4 => ?_) (fun h4 => ?_)
      · skip
        refine pe_iload_n (j := 2) (by decide +kernel) rfl ?_
        refine pe_iconstv (n := 2) (v := 2) (by decide +kernel) (by decide +kernel) ?_
        refine pz_icmp_ne (off := 8) (t := 44) (by decide +kernel) (by decide) rfl rfl kz_2 (fun h5 => ?_) (fun h5 => ?_)
        · skip
          refine pe_iload_n (j := 2) (by decide +kernel) rfl ?_
          refine pe_bipushv (n := 10) (v := 10) (by decide +kernel) (by decide +kernel) ?_
          refine pz_icmp_lt (off := 24) (t := 71) (by decide +kernel) (by decide) rfl rfl kz_10 (fun h6 => ?_) (fun h6 => ?_)
          · skip
            refine pe_iload_n (j := 2) (by decide +kernel) rfl ?_
            refine pe_bipushv (n := 20) (v := 20) (by decide +kernel) (by decide +kernel) ?_
            refine pz_icmp_lt (off := 24) (t := 98) (by decide +kernel) (by decide) rfl rfl kz_20 (fun h7 => ?_) (fun h7 => by omega)
            refine pe_iconstv (n := (-1)) (v := (-1)) (by decide +kernel) (by decide +kernel) ?_
            exact pe_iret (by decide +kernel) rfl rfl ⟨(-1), rfl, ⟨trivial, trivial⟩⟩
          · skip
            refine pe_aload_n (j := 3) (by decide +kernel) rfl ?_
            refine pe_iload_n (j := 2) (by decide +kernel) rfl ?_
            refine pe_bipushv (n := 10) (v := 10) (by decide +kernel) (by decide +kernel) ?_
            refine pz_sub (by decide +kernel) rfl kz_10 (by omega) (by omega) (fun z8 hz8 => ?_)
            refine pi_V (j := 126) (mj := 61) (by decide +kernel) (cll_V (args := [.int z8]) (n := 1) (by decide +kernel) rfl rfl (cv_o hv5) (by decide +kernel) (Nat.le_of_ble_eq_true rfl) (Nat.le_of_ble_eq_true rfl)) ?_
            show pmE pg X pg_tyl pg_cl (d) 61 0 [.ref v5, .int z8] [] (cd f A R wr) _
            refine pe_iload_n (j := 1) (by decide +kernel) rfl ?_
            refine pz_if_lt (off := 15) (t := 16) (by decide +kernel) (by decide) rfl hz8 (fun h9 => by omega) (fun h9 => ?_)
            refine pe_iload_n (j := 1) (by decide +kernel) rfl ?_
            refine pe_aload_n (j := 0) (by decide +kernel) rfl ?_
            refine pe_get (j := 9) (ci := 9) (n := 0) (by decide +kernel) (by decide +kernel) (cv_o hv5) rfl ?_
            have hr_f_16v5 := cv_people hv5 hI
            refine pz_icmp_ge (off := 7) (t := 16) (by decide +kernel) (by decide) rfl hz8 rfl (fun h10 => ?_) (fun h10 => ?_)
            · skip
              refine pe_iconstv (n := 0) (v := 0) (by decide +kernel) (by decide +kernel) ?_
              refine pe_iret (by decide +kernel) rfl rfl ⟨rfl, rfl, ?_⟩
              show pmE pg X pg_tyl pg_cl (d + 1) 59 58 [.ref 0, .int x1, .int x2, .ref v5] [.int 0] (cd f A R wr) _
              refine pz_if_eq (off := 13) (t := 71) (by decide +kernel) (by decide) rfl kz_0 (fun h11 => ?_) (fun h11 => by omega)
              refine pe_iload_n (j := 2) (by decide +kernel) rfl ?_
              refine pe_bipushv (n := 20) (v := 20) (by decide +kernel) (by decide +kernel) ?_
              refine pz_icmp_lt (off := 24) (t := 98) (by decide +kernel) (by decide) rfl rfl kz_20 (fun h12 => ?_) (fun h12 => ?_)
              · skip
                refine pe_iconstv (n := (-1)) (v := (-1)) (by decide +kernel) (by decide +kernel) ?_
                exact pe_iret (by decide +kernel) rfl rfl ⟨(-1), rfl, ⟨trivial, trivial⟩⟩
              · skip
                refine pe_aload_n (j := 3) (by decide +kernel) rfl ?_
                refine pe_iload_n (j := 2) (by decide +kernel) rfl ?_
                refine pe_bipushv (n := 20) (v := 20) (by decide +kernel) (by decide +kernel) ?_
                refine pz_sub (by decide +kernel) rfl kz_20 (by omega) (by omega) (fun z13 hz13 => ?_)
                refine pi_V (j := 126) (mj := 61) (by decide +kernel) (cll_V (args := [.int z13]) (n := 1) (by decide +kernel) rfl rfl (cv_o hv5) (by decide +kernel) (Nat.le_of_ble_eq_true rfl) (Nat.le_of_ble_eq_true rfl)) ?_
                show pmE pg X pg_tyl pg_cl (d) 61 0 [.ref v5, .int z13] [] (cd f A R wr) _
                refine pe_iload_n (j := 1) (by decide +kernel) rfl ?_
                refine pz_if_lt (off := 15) (t := 16) (by decide +kernel) (by decide) rfl hz13 (fun h14 => by omega) (fun h14 => ?_)
                refine pe_iload_n (j := 1) (by decide +kernel) rfl ?_
                refine pe_aload_n (j := 0) (by decide +kernel) rfl ?_
                refine pe_get (j := 9) (ci := 9) (n := 0) (by decide +kernel) (by decide +kernel) (cv_o hv5) rfl ?_
                refine pz_icmp_ge (off := 7) (t := 16) (by decide +kernel) (by decide) rfl hz13 rfl (fun h15 => ?_) (fun h15 => ?_)
                · skip
                  refine pe_iconstv (n := 0) (v := 0) (by decide +kernel) (by decide +kernel) ?_
                  refine pe_iret (by decide +kernel) rfl rfl ⟨rfl, rfl, ?_⟩
                  show pmE pg X pg_tyl pg_cl (d + 1) 59 85 [.ref 0, .int x1, .int x2, .ref v5] [.int 0] (cd f A R wr) _
                  refine pz_if_eq (off := 13) (t := 98) (by decide +kernel) (by decide) rfl kz_0 (fun h16 => ?_) (fun h16 => by omega)
                  refine pe_iconstv (n := (-1)) (v := (-1)) (by decide +kernel) (by decide +kernel) ?_
                  exact pe_iret (by decide +kernel) rfl rfl ⟨(-1), rfl, ⟨trivial, trivial⟩⟩
                · skip
                  refine pe_iconstv (n := 1) (v := 1) (by decide +kernel) (by decide +kernel) ?_
                  refine pe_goto (off := 4) (t := 17) (by decide +kernel) (by decide) rfl ?_
                  refine pe_iret (by decide +kernel) rfl rfl ⟨rfl, rfl, ?_⟩
                  show pmE pg X pg_tyl pg_cl (d + 1) 59 85 [.ref 0, .int x1, .int x2, .ref v5] [.int 1] (cd f A R wr) _
                  refine pz_if_eq (off := 13) (t := 98) (by decide +kernel) (by decide) rfl kz_1 (fun h17 => by omega) (fun h17 => ?_)
                  refine pe_aload_n (j := 3) (by decide +kernel) rfl ?_
                  refine pe_get (j := 133) (ci := 9) (n := 5) (by decide +kernel) (by decide +kernel) (cv_o hv5) rfl ?_
                  refine pe_iload_n (j := 2) (by decide +kernel) rfl ?_
                  refine pe_bipushv (n := 20) (v := 20) (by decide +kernel) (by decide +kernel) ?_
                  refine pz_sub (by decide +kernel) rfl kz_20 (by omega) (by omega) (fun z18 hz18 => ?_)
                  refine pz_iald (by decide +kernel) (cv_a3 hv5) (cv_l3 hv5 hI) hz18 (by omega) (by omega) (fun v19 ev19 => ?_)
                  clear hz18
                  exact pe_iret (by decide +kernel) rfl rfl ⟨v19, rfl, ⟨trivial, trivial⟩⟩
            · skip
              refine pe_iconstv (n := 1) (v := 1) (by decide +kernel) (by decide +kernel) ?_
              refine pe_goto (off := 4) (t := 17) (by decide +kernel) (by decide) rfl ?_
              refine pe_iret (by decide +kernel) rfl rfl ⟨rfl, rfl, ?_⟩
              show pmE pg X pg_tyl pg_cl (d + 1) 59 58 [.ref 0, .int x1, .int x2, .ref v5] [.int 1] (cd f A R wr) _
              refine pz_if_eq (off := 13) (t := 71) (by decide +kernel) (by decide) rfl kz_1 (fun h20 => by omega) (fun h20 => ?_)
              refine pe_aload_n (j := 3) (by decide +kernel) rfl ?_
              refine pe_get (j := 130) (ci := 9) (n := 4) (by decide +kernel) (by decide +kernel) (cv_o hv5) rfl ?_
              refine pe_iload_n (j := 2) (by decide +kernel) rfl ?_
              refine pe_bipushv (n := 10) (v := 10) (by decide +kernel) (by decide +kernel) ?_
              refine pz_sub (by decide +kernel) rfl kz_10 (by omega) (by omega) (fun z21 hz21 => ?_)
              refine pz_iald (by decide +kernel) (cv_a2 hv5) (cv_l2 hv5 hI) hz21 (by omega) (by omega) (fun v22 ev22 => ?_)
              clear hz21
              exact pe_iret (by decide +kernel) rfl rfl ⟨v22, rfl, ⟨trivial, trivial⟩⟩
        · skip
          refine pe_aload_n (j := 3) (by decide +kernel) rfl ?_
          refine pe_get (j := 123) (ci := 9) (n := 1) (by decide +kernel) (by decide +kernel) (cv_o hv5) rfl ?_
          exact pe_iret (by decide +kernel) rfl rfl ⟨(f (16 * v5 + 1)), rfl, ⟨trivial, trivial⟩⟩
      · skip
        refine pe_aload_n (j := 3) (by decide +kernel) rfl ?_
        refine pe_get (j := 120) (ci := 9) (n := 2) (by decide +kernel) (by decide +kernel) (cv_o hv5) rfl ?_
        have hr_f_16v52 := cv_wants hv5 hI
        exact pe_iret (by decide +kernel) rfl rfl ⟨(f (16 * v5 + 2)), rfl, ⟨trivial, trivial⟩⟩
    · skip
      refine pe_aload_n (j := 3) (by decide +kernel) rfl ?_
      refine pe_get (j := 115) (ci := 9) (n := 0) (by decide +kernel) (by decide +kernel) (cv_o hv5) rfl ?_
      have hr_f_16v5 := cv_people hv5 hI
      exact pe_iret (by decide +kernel) rfl rfl ⟨(f (16 * v5)), rfl, ⟨trivial, trivial⟩⟩
set_option maxRecDepth 100000 in
set_option maxHeartbeats 8000000 in
theorem CM_62 {X : pm_X} {d : Nat} {wr : pm_W} {f : Nat → Int32} {A : Nat → List Int32} {R : Nat → Value} {x1 x2 x3 : Int32} (hX : XO X) (hI : CI f A R) : pmE pg X pg_tyl pg_cl (d + 1) 62 0 (pm_ent (pm_max pg 62) [.ref 0, .int x1, .int x2, .int x3]) [] (cd f A R wr) (fun q => ∃ (r : Int32), q = (some (.int r), cd f A R wr, 0, 0) ∧ ((True ∧ True))) := by
  show pmE pg X pg_tyl pg_cl (d + 1) 62 0 [.ref 0, .int x1, .int x2, .int x3, pm_dead] [] (cd f A R wr) _
  refine pe_aload_n (j := 0) (by decide +kernel) rfl ?_
  refine pe_get (j := 12) (ci := 11) (n := 0) (by decide +kernel) (by decide +kernel) cd_o0 rfl ?_
  refine pe_iload_n (j := 1) (by decide +kernel) rfl ?_
  refine pz_callV (j := 111) (mj := 60) (by decide +kernel) (cll_V (args := [.int x1]) (n := 1) (by decide +kernel) rfl rfl cd_o1 (by decide +kernel) (Nat.le_of_ble_eq_true rfl) (Nat.le_of_ble_eq_true rfl)) (CM_atV hI) (fun q1a q1b q1c q1d hqq1 => ?_)
  obtain ⟨rq1, eq1, kq1⟩ := hqq1
  cases eq1
  rcases kq1 with rfl | ⟨v5, hv5, rfl⟩
  · skip
    refine ⟨rfl, rfl, ?_⟩
    show pmE pg X pg_tyl pg_cl (d + 1) 62 8 [.ref 0, .int x1, .int x2, .int x3, pm_dead] [.null] (cd f A R wr) _
    refine pe_astoreN (j := 4) (ls' := [.ref 0, .int x1, .int x2, .int x3, .null]) (by decide +kernel) (Nat.le_of_ble_eq_true rfl) rfl ?_
    refine pe_aloadN (j := 4) (by decide +kernel) rfl ?_
    refine pe_ifnullN (off := 21) (t := 33) (by decide +kernel) (by decide) rfl ?_
    refine pe_iconstv (n := (-1)) (v := (-1)) (by decide +kernel) (by decide +kernel) ?_
    exact pe_iret (by decide +kernel) rfl rfl ⟨(-1), rfl, ⟨trivial, trivial⟩⟩
  · skip
    have bv5 := VV_b hv5
    refine ⟨rfl, rfl, ?_⟩
    show pmE pg X pg_tyl pg_cl (d + 1) 62 8 [.ref 0, .int x1, .int x2, .int x3, pm_dead] [.ref v5] (cd f A R wr) _
    refine pe_astore (j := 4) (ls' := [.ref 0, .int x1, .int x2, .int x3, .ref v5]) (by decide +kernel) (Nat.le_of_ble_eq_true rfl) rfl ?_
    refine pe_aload (j := 4) (by decide +kernel) rfl ?_
    refine pe_ifnull (off := 21) (by decide +kernel) ?_
    refine pe_aload (j := 4) (by decide +kernel) rfl ?_
    refine pe_iload_n (j := 2) (by decide +kernel) rfl ?_
    refine pi_V (j := 126) (mj := 61) (by decide +kernel) (cll_V (args := [.int x2]) (n := 1) (by decide +kernel) rfl rfl (cv_o hv5) (by decide +kernel) (Nat.le_of_ble_eq_true rfl) (Nat.le_of_ble_eq_true rfl)) ?_
    show pmE pg X pg_tyl pg_cl (d) 61 0 [.ref v5, .int x2] [] (cd f A R wr) _
    refine pe_iload_n (j := 1) (by decide +kernel) rfl ?_
    have lw3 := zi_lo x2
    have uw3 := zi_hi x2
    refine pz_if_lt (off := 15) (t := 16) (by decide +kernel) (by decide) rfl rfl (fun h2 => ?_) (fun h2 => ?_)
    · skip
      refine pe_iconstv (n := 0) (v := 0) (by decide +kernel) (by decide +kernel) ?_
      refine pe_iret (by decide +kernel) rfl rfl ⟨rfl, rfl, ?_⟩
      show pmE pg X pg_tyl pg_cl (d + 1) 62 21 [.ref 0, .int x1, .int x2, .int x3, .ref v5] [.int 0] (cd f A R wr) _
      refine pz_if_eq (off := 12) (t := 33) (by decide +kernel) (by decide) rfl kz_0 (fun h4 => ?_) (fun h4 => by omega)
      refine pe_iconstv (n := (-1)) (v := (-1)) (by decide +kernel) (by decide +kernel) ?_
      exact pe_iret (by decide +kernel) rfl rfl ⟨(-1), rfl, ⟨trivial, trivial⟩⟩
    · skip
      refine pe_iload_n (j := 1) (by decide +kernel) rfl ?_
      refine pe_aload_n (j := 0) (by decide +kernel) rfl ?_
      refine pe_get (j := 9) (ci := 9) (n := 0) (by decide +kernel) (by decide +kernel) (cv_o hv5) rfl ?_
      have hr_f_16v5 := cv_people hv5 hI
      refine pz_icmp_ge (off := 7) (t := 16) (by decide +kernel) (by decide) rfl rfl rfl (fun h5 => ?_) (fun h5 => ?_)
      · skip
        refine pe_iconstv (n := 0) (v := 0) (by decide +kernel) (by decide +kernel) ?_
        refine pe_iret (by decide +kernel) rfl rfl ⟨rfl, rfl, ?_⟩
        show pmE pg X pg_tyl pg_cl (d + 1) 62 21 [.ref 0, .int x1, .int x2, .int x3, .ref v5] [.int 0] (cd f A R wr) _
        refine pz_if_eq (off := 12) (t := 33) (by decide +kernel) (by decide) rfl kz_0 (fun h6 => ?_) (fun h6 => by omega)
        refine pe_iconstv (n := (-1)) (v := (-1)) (by decide +kernel) (by decide +kernel) ?_
        exact pe_iret (by decide +kernel) rfl rfl ⟨(-1), rfl, ⟨trivial, trivial⟩⟩
      · skip
        refine pe_iconstv (n := 1) (v := 1) (by decide +kernel) (by decide +kernel) ?_
        refine pe_goto (off := 4) (t := 17) (by decide +kernel) (by decide) rfl ?_
        refine pe_iret (by decide +kernel) rfl rfl ⟨rfl, rfl, ?_⟩
        show pmE pg X pg_tyl pg_cl (d + 1) 62 21 [.ref 0, .int x1, .int x2, .int x3, .ref v5] [.int 1] (cd f A R wr) _
        refine pz_if_eq (off := 12) (t := 33) (by decide +kernel) (by decide) rfl kz_1 (fun h7 => by omega) (fun h7 => ?_)
        refine pe_aload (j := 4) (by decide +kernel) rfl ?_
        refine pe_iload_n (j := 3) (by decide +kernel) rfl ?_
        refine pi_V (j := 126) (mj := 61) (by decide +kernel) (cll_V (args := [.int x3]) (n := 1) (by decide +kernel) rfl rfl (cv_o hv5) (by decide +kernel) (Nat.le_of_ble_eq_true rfl) (Nat.le_of_ble_eq_true rfl)) ?_
        show pmE pg X pg_tyl pg_cl (d) 61 0 [.ref v5, .int x3] [] (cd f A R wr) _
        refine pe_iload_n (j := 1) (by decide +kernel) rfl ?_
        have lw9 := zi_lo x3
        have uw9 := zi_hi x3
        refine pz_if_lt (off := 15) (t := 16) (by decide +kernel) (by decide) rfl rfl (fun h8 => ?_) (fun h8 => ?_)
        · skip
          refine pe_iconstv (n := 0) (v := 0) (by decide +kernel) (by decide +kernel) ?_
          refine pe_iret (by decide +kernel) rfl rfl ⟨rfl, rfl, ?_⟩
          show pmE pg X pg_tyl pg_cl (d + 1) 62 30 [.ref 0, .int x1, .int x2, .int x3, .ref v5] [.int 0] (cd f A R wr) _
          refine pz_if_ne (off := 5) (t := 35) (by decide +kernel) (by decide) rfl kz_0 (fun h10 => by omega) (fun h10 => ?_)
          refine pe_iconstv (n := (-1)) (v := (-1)) (by decide +kernel) (by decide +kernel) ?_
          exact pe_iret (by decide +kernel) rfl rfl ⟨(-1), rfl, ⟨trivial, trivial⟩⟩
        · skip
          refine pe_iload_n (j := 1) (by decide +kernel) rfl ?_
          refine pe_aload_n (j := 0) (by decide +kernel) rfl ?_
          refine pe_get (j := 9) (ci := 9) (n := 0) (by decide +kernel) (by decide +kernel) (cv_o hv5) rfl ?_
          refine pz_icmp_ge (off := 7) (t := 16) (by decide +kernel) (by decide) rfl rfl rfl (fun h11 => ?_) (fun h11 => ?_)
          · skip
            refine pe_iconstv (n := 0) (v := 0) (by decide +kernel) (by decide +kernel) ?_
            refine pe_iret (by decide +kernel) rfl rfl ⟨rfl, rfl, ?_⟩
            show pmE pg X pg_tyl pg_cl (d + 1) 62 30 [.ref 0, .int x1, .int x2, .int x3, .ref v5] [.int 0] (cd f A R wr) _
            refine pz_if_ne (off := 5) (t := 35) (by decide +kernel) (by decide) rfl kz_0 (fun h12 => by omega) (fun h12 => ?_)
            refine pe_iconstv (n := (-1)) (v := (-1)) (by decide +kernel) (by decide +kernel) ?_
            exact pe_iret (by decide +kernel) rfl rfl ⟨(-1), rfl, ⟨trivial, trivial⟩⟩
          · skip
            refine pe_iconstv (n := 1) (v := 1) (by decide +kernel) (by decide +kernel) ?_
            refine pe_goto (off := 4) (t := 17) (by decide +kernel) (by decide) rfl ?_
            refine pe_iret (by decide +kernel) rfl rfl ⟨rfl, rfl, ?_⟩
            show pmE pg X pg_tyl pg_cl (d + 1) 62 30 [.ref 0, .int x1, .int x2, .int x3, .ref v5] [.int 1] (cd f A R wr) _
            refine pz_if_ne (off := 5) (t := 35) (by decide +kernel) (by decide) rfl kz_1 (fun h13 => ?_) (fun h13 => by omega)
            refine pe_aload (j := 4) (by decide +kernel) rfl ?_
            refine pe_get (j := 136) (ci := 9) (n := 3) (by decide +kernel) (by decide +kernel) (cv_o hv5) rfl ?_
            refine pe_iload_n (j := 2) (by decide +kernel) rfl ?_
            refine pe_iload_n (j := 3) (by decide +kernel) rfl ?_
            refine pi_S (j := 139) (mj := 52) (by decide +kernel) (by decide +kernel) rfl ?_
            show pmE pg X pg_tyl pg_cl (d) 52 0 [.int x2, .int x3] [] (cd f A R wr) _
            refine pe_iload_n (j := 0) (by decide +kernel) rfl ?_
            refine pe_bipushv (n := 9) (v := 9) (by decide +kernel) (by decide +kernel) ?_
            refine pz_mul (by decide +kernel) rfl kz_9 (by omega) (by omega) (fun z14 hz14 => ?_)
            refine pe_iload_n (j := 1) (by decide +kernel) rfl ?_
            refine pz_add (by decide +kernel) hz14 rfl (by omega) (by omega) (fun z15 hz15 => ?_)
            clear hz14
            refine pe_iret (by decide +kernel) rfl rfl ⟨rfl, rfl, ?_⟩
            show pmE pg X pg_tyl pg_cl (d + 1) 62 45 [.ref 0, .int x1, .int x2, .int x3, .ref v5] [.int z15, .ref (v5 + 1)] (cd f A R wr) _
            refine pz_iald (by decide +kernel) (cv_a1 hv5) (cv_l1 hv5 hI) hz15 (by omega) (by omega) (fun v16 ev16 => ?_)
            clear hz15
            exact pe_iret (by decide +kernel) rfl rfl ⟨v16, rfl, ⟨trivial, trivial⟩⟩
