set_option maxRecDepth 100000 in
set_option maxHeartbeats 8000000 in
theorem CM_101 {X : pm_X} {d : Nat} {wr : pm_W} {f : Nat → Int32} {A : Nat → List Int32} {R : Nat → Value} {x1 x2 x3 x4 : Int32} (hX : XO X) (hI : CI f A R) : pmE pg X pg_tyl pg_cl (d + 6) 101 0 (pm_ent (pm_max pg 101) [.ref 0, .int x1, .int x2, .int x3, .int x4]) [] (cd f A R wr) (fun q => ∃ (f' : Nat → Int32) (A' : Nat → List Int32) (R' : Nat → Value) (r : Int32), q = (some (.int r), cd f' A' R' wr, 0, 0) ∧ CI f' A' R' ∧ (∀ k : Nat, k ≠ 529 → k ≠ 530 → f' k = f k) ∧ (∀ k : Nat, k ≠ 39 → k ≠ 40 → k ≠ 41 → A' k = A k) ∧ (∀ k : Nat, k ≠ 0 → R' k = R k) ∧ ((r = 0 ∧ True) ∨ (r = 1 ∧ (∃ v : Nat, VV v ∧ R' 0 = .ref v) ∧ (0 ≤ x3.toInt ∧ x3.toInt ≤ 30) ∧ (0 ≤ x4.toInt ∧ x4.toInt ≤ 8)))) := by
  show pmE pg X pg_tyl pg_cl (d + 6) 101 0 [.ref 0, .int x1, .int x2, .int x3, .int x4] [] (cd f A R wr) _
  refine pe_aload_n (j := 0) (by decide +kernel) rfl ?_
  refine pe_iload_n (j := 1) (by decide +kernel) rfl ?_
  refine pe_iload_n (j := 2) (by decide +kernel) rfl ?_
  refine pe_iload_n (j := 3) (by decide +kernel) rfl ?_
  refine pz_callV (j := 201) (mj := 98) (by decide +kernel) (cll_V (args := [.int x3, .int x2, .int x1]) (n := 3) (by decide +kernel) rfl rfl cd_o0 (by decide +kernel) (Nat.le_of_ble_eq_true rfl) (Nat.le_of_ble_eq_true rfl)) (CM_98 hX hI) (fun q1a q1b q1c q1d hqq1 => ?_)
  obtain ⟨f2, A3, R4, rq1, eq1, hIq1, hGq1, hFq1, hHq1, kq1⟩ := hqq1
  cases eq1
  refine ⟨rfl, rfl, ?_⟩
  rcases kq1 with kq1 | kq1
  · skip
    obtain ⟨erq1, kq1⟩ := kq1
    subst erq1
    show pmE pg X pg_tyl pg_cl (d + 6) 101 7 [.ref 0, .int x1, .int x2, .int x3, .int x4] [.int 0] (cd f2 A3 R4 wr) _
    refine pz_if_eq (off := 22) (t := 29) (by decide +kernel) (by decide) rfl kz_0 (fun h5 => ?_) (fun h5 => by omega)
    refine pe_iconstv (n := 0) (v := 0) (by decide +kernel) (by decide +kernel) ?_
    exact pe_iret (by decide +kernel) rfl rfl ⟨f2, A3, R4, 0, rfl, hIq1, (fun k n529 n530 => (hGq1 k n529 n530)), (fun k n39 n40 n41 => (hFq1 k n39 n40 n41)), (fun k n0 => (hHq1 k n0)), Or.inl ⟨rfl, trivial⟩⟩
  · skip
    obtain ⟨erq1, kq1⟩ := kq1
    subst erq1
    obtain ⟨⟨v4, hv4, hR0q1⟩, kq1⟩ := kq1
    have bv4 := VV_b hv4
    show pmE pg X pg_tyl pg_cl (d + 6) 101 7 [.ref 0, .int x1, .int x2, .int x3, .int x4] [.int 1] (cd f2 A3 R4 wr) _
    refine pz_if_eq (off := 22) (t := 29) (by decide +kernel) (by decide) rfl kz_1 (fun h6 => by omega) (fun h6 => ?_)
    refine pe_aload_n (j := 0) (by decide +kernel) rfl ?_
    refine pe_get (j := 34) (ci := 11) (n := 4) (by decide +kernel) (by decide +kernel) cd_o0 rfl ?_
    refine pe_get (j := 287) (ci := 7) (n := 0) (by decide +kernel) (by decide +kernel) cd_o33 rfl ?_
    refine pe_topV (v := .ref v4) (hR0q1) ?_
    refine pe_iload (j := 4) (by decide +kernel) rfl ?_
    refine pi_V (j := 126) (mj := 61) (by decide +kernel) (cll_V (args := [.int x4]) (n := 1) (by decide +kernel) rfl rfl (cv_o hv4) (by decide +kernel) (Nat.le_of_ble_eq_true rfl) (Nat.le_of_ble_eq_true rfl)) ?_
    show pmE pg X pg_tyl pg_cl (d + 5) 61 0 [.ref v4, .int x4] [] (cd f2 A3 R4 wr) _
    refine pe_iload_n (j := 1) (by decide +kernel) rfl ?_
    have lw8 := zi_lo x4
    have uw8 := zi_hi x4
    refine pz_if_lt (off := 15) (t := 16) (by decide +kernel) (by decide) rfl rfl (fun h7 => ?_) (fun h7 => ?_)
    · skip
      refine pe_iconstv (n := 0) (v := 0) (by decide +kernel) (by decide +kernel) ?_
      refine pe_iret (by decide +kernel) rfl rfl ⟨rfl, rfl, ?_⟩
      show pmE pg X pg_tyl pg_cl (d + 6) 101 22 [.ref 0, .int x1, .int x2, .int x3, .int x4] [.int 0] (cd f2 A3 R4 wr) _
      refine pz_if_eq (off := 7) (t := 29) (by decide +kernel) (by decide) rfl kz_0 (fun h9 => ?_) (fun h9 => by omega)
      refine pe_iconstv (n := 0) (v := 0) (by decide +kernel) (by decide +kernel) ?_
      exact pe_iret (by decide +kernel) rfl rfl ⟨f2, A3, R4, 0, rfl, hIq1, (fun k n529 n530 => (hGq1 k n529 n530)), (fun k n39 n40 n41 => (hFq1 k n39 n40 n41)), (fun k n0 => (hHq1 k n0)), Or.inl ⟨rfl, trivial⟩⟩
    · skip
      refine pe_iload_n (j := 1) (by decide +kernel) rfl ?_
      refine pe_aload_n (j := 0) (by decide +kernel) rfl ?_
      refine pe_get (j := 9) (ci := 9) (n := 0) (by decide +kernel) (by decide +kernel) (cv_o hv4) rfl ?_
      have hr_f_16v4 := cv_people hv4 hI
      refine pe_top (v := (f (16 * v4))) ((hGq1 (16 * v4) (by omega) (by omega))) ?_
      refine pz_icmp_ge (off := 7) (t := 16) (by decide +kernel) (by decide) rfl rfl rfl (fun h10 => ?_) (fun h10 => ?_)
      · skip
        refine pe_iconstv (n := 0) (v := 0) (by decide +kernel) (by decide +kernel) ?_
        refine pe_iret (by decide +kernel) rfl rfl ⟨rfl, rfl, ?_⟩
        show pmE pg X pg_tyl pg_cl (d + 6) 101 22 [.ref 0, .int x1, .int x2, .int x3, .int x4] [.int 0] (cd f2 A3 R4 wr) _
        refine pz_if_eq (off := 7) (t := 29) (by decide +kernel) (by decide) rfl kz_0 (fun h11 => ?_) (fun h11 => by omega)
        refine pe_iconstv (n := 0) (v := 0) (by decide +kernel) (by decide +kernel) ?_
        exact pe_iret (by decide +kernel) rfl rfl ⟨f2, A3, R4, 0, rfl, hIq1, (fun k n529 n530 => (hGq1 k n529 n530)), (fun k n39 n40 n41 => (hFq1 k n39 n40 n41)), (fun k n0 => (hHq1 k n0)), Or.inl ⟨rfl, trivial⟩⟩
      · skip
        refine pe_iconstv (n := 1) (v := 1) (by decide +kernel) (by decide +kernel) ?_
        refine pe_goto (off := 4) (t := 17) (by decide +kernel) (by decide) rfl ?_
        refine pe_iret (by decide +kernel) rfl rfl ⟨rfl, rfl, ?_⟩
        show pmE pg X pg_tyl pg_cl (d + 6) 101 22 [.ref 0, .int x1, .int x2, .int x3, .int x4] [.int 1] (cd f2 A3 R4 wr) _
        refine pz_if_eq (off := 7) (t := 29) (by decide +kernel) (by decide) rfl kz_1 (fun h12 => by omega) (fun h12 => ?_)
        refine pe_iconstv (n := 1) (v := 1) (by decide +kernel) (by decide +kernel) ?_
        refine pe_goto (off := 4) (t := 30) (by decide +kernel) (by decide) rfl ?_
        exact pe_iret (by decide +kernel) rfl rfl ⟨f2, A3, R4, 1, rfl, hIq1, (fun k n529 n530 => (hGq1 k n529 n530)), (fun k n39 n40 n41 => (hFq1 k n39 n40 n41)), (fun k n0 => (hHq1 k n0)), Or.inr (⟨rfl, ⟨v4, hv4, hR0q1⟩, (by omega)⟩)⟩
set_option maxRecDepth 100000 in
set_option maxHeartbeats 8000000 in
theorem CM_97 {X : pm_X} {d : Nat} {wr : pm_W} {f : Nat → Int32} {A : Nat → List Int32} {R : Nat → Value} {x1 x2 x3 x4 x5 : Int32} (hX : XO X) (hI : CI f A R) : pmE pg X pg_tyl pg_cl (d + 6) 97 0 (pm_ent (pm_max pg 97) [.ref 0, .int x1, .int x2, .int x3, .int x4, .int x5]) [] (cd f A R wr) (fun q => ∃ (f' : Nat → Int32) (A' : Nat → List Int32) (R' : Nat → Value) (r : Int32), q = (some (.int r), cd f' A' R' wr, 0, 0) ∧ CI f' A' R' ∧ (∀ k : Nat, k ≠ 529 → k ≠ 530 → f' k = f k) ∧ (∀ k : Nat, k ≠ 39 → k ≠ 40 → k ≠ 41 → A' k = A k) ∧ (∀ k : Nat, k ≠ 0 → R' k = R k) ∧ ((r = 0 ∧ True) ∨ (r = 1 ∧ (∃ v : Nat, VV v ∧ R' 0 = .ref v) ∧ (0 ≤ x3.toInt ∧ x3.toInt ≤ 30) ∧ (0 ≤ x4.toInt ∧ x4.toInt ≤ 8) ∧ (0 ≤ x5.toInt ∧ x5.toInt ≤ 8)))) := by
  show pmE pg X pg_tyl pg_cl (d + 6) 97 0 [.ref 0, .int x1, .int x2, .int x3, .int x4, .int x5] [] (cd f A R wr) _
  refine pe_aload_n (j := 0) (by decide +kernel) rfl ?_
  refine pe_iload_n (j := 1) (by decide +kernel) rfl ?_
  refine pe_iload_n (j := 2) (by decide +kernel) rfl ?_
  refine pe_iload_n (j := 3) (by decide +kernel) rfl ?_
  refine pz_callV (j := 201) (mj := 98) (by decide +kernel) (cll_V (args := [.int x3, .int x2, .int x1]) (n := 3) (by decide +kernel) rfl rfl cd_o0 (by decide +kernel) (Nat.le_of_ble_eq_true rfl) (Nat.le_of_ble_eq_true rfl)) (CM_98 hX hI) (fun q1a q1b q1c q1d hqq1 => ?_)
  obtain ⟨f2, A3, R4, rq1, eq1, hIq1, hGq1, hFq1, hHq1, kq1⟩ := hqq1
  cases eq1
  refine ⟨rfl, rfl, ?_⟩
  rcases kq1 with kq1 | kq1
  · skip
    obtain ⟨erq1, kq1⟩ := kq1
    subst erq1
    show pmE pg X pg_tyl pg_cl (d + 6) 97 7 [.ref 0, .int x1, .int x2, .int x3, .int x4, .int x5] [.int 0] (cd f2 A3 R4 wr) _
    refine pz_if_eq (off := 37) (t := 44) (by decide +kernel) (by decide) rfl kz_0 (fun h5 => ?_) (fun h5 => by omega)
    refine pe_iconstv (n := 0) (v := 0) (by decide +kernel) (by decide +kernel) ?_
    exact pe_iret (by decide +kernel) rfl rfl ⟨f2, A3, R4, 0, rfl, hIq1, (fun k n529 n530 => (hGq1 k n529 n530)), (fun k n39 n40 n41 => (hFq1 k n39 n40 n41)), (fun k n0 => (hHq1 k n0)), Or.inl ⟨rfl, trivial⟩⟩
  · skip
    obtain ⟨erq1, kq1⟩ := kq1
    subst erq1
    obtain ⟨⟨v4, hv4, hR0q1⟩, kq1⟩ := kq1
    have bv4 := VV_b hv4
    show pmE pg X pg_tyl pg_cl (d + 6) 97 7 [.ref 0, .int x1, .int x2, .int x3, .int x4, .int x5] [.int 1] (cd f2 A3 R4 wr) _
    refine pz_if_eq (off := 37) (t := 44) (by decide +kernel) (by decide) rfl kz_1 (fun h6 => by omega) (fun h6 => ?_)
    refine pe_aload_n (j := 0) (by decide +kernel) rfl ?_
    refine pe_get (j := 34) (ci := 11) (n := 4) (by decide +kernel) (by decide +kernel) cd_o0 rfl ?_
    refine pe_get (j := 287) (ci := 7) (n := 0) (by decide +kernel) (by decide +kernel) cd_o33 rfl ?_
    refine pe_topV (v := .ref v4) (hR0q1) ?_
    refine pe_iload (j := 4) (by decide +kernel) rfl ?_
    refine pi_V (j := 126) (mj := 61) (by decide +kernel) (cll_V (args := [.int x4]) (n := 1) (by decide +kernel) rfl rfl (cv_o hv4) (by decide +kernel) (Nat.le_of_ble_eq_true rfl) (Nat.le_of_ble_eq_true rfl)) ?_
    show pmE pg X pg_tyl pg_cl (d + 5) 61 0 [.ref v4, .int x4] [] (cd f2 A3 R4 wr) _
    refine pe_iload_n (j := 1) (by decide +kernel) rfl ?_
    have lw8 := zi_lo x4
    have uw8 := zi_hi x4
    refine pz_if_lt (off := 15) (t := 16) (by decide +kernel) (by decide) rfl rfl (fun h7 => ?_) (fun h7 => ?_)
    · skip
      refine pe_iconstv (n := 0) (v := 0) (by decide +kernel) (by decide +kernel) ?_
      refine pe_iret (by decide +kernel) rfl rfl ⟨rfl, rfl, ?_⟩
      show pmE pg X pg_tyl pg_cl (d + 6) 97 22 [.ref 0, .int x1, .int x2, .int x3, .int x4, .int x5] [.int 0] (cd f2 A3 R4 wr) _
      refine pz_if_eq (off := 22) (t := 44) (by decide +kernel) (by decide) rfl kz_0 (fun h9 => ?_) (fun h9 => by omega)
      refine pe_iconstv (n := 0) (v := 0) (by decide +kernel) (by decide +kernel) ?_
      exact pe_iret (by decide +kernel) rfl rfl ⟨f2, A3, R4, 0, rfl, hIq1, (fun k n529 n530 => (hGq1 k n529 n530)), (fun k n39 n40 n41 => (hFq1 k n39 n40 n41)), (fun k n0 => (hHq1 k n0)), Or.inl ⟨rfl, trivial⟩⟩
    · skip
      refine pe_iload_n (j := 1) (by decide +kernel) rfl ?_
      refine pe_aload_n (j := 0) (by decide +kernel) rfl ?_
      refine pe_get (j := 9) (ci := 9) (n := 0) (by decide +kernel) (by decide +kernel) (cv_o hv4) rfl ?_
      have hr_f_16v4 := cv_people hv4 hI
      refine pe_top (v := (f (16 * v4))) ((hGq1 (16 * v4) (by omega) (by omega))) ?_
      refine pz_icmp_ge (off := 7) (t := 16) (by decide +kernel) (by decide) rfl rfl rfl (fun h10 => ?_) (fun h10 => ?_)
      · skip
        refine pe_iconstv (n := 0) (v := 0) (by decide +kernel) (by decide +kernel) ?_
        refine pe_iret (by decide +kernel) rfl rfl ⟨rfl, rfl, ?_⟩
        show pmE pg X pg_tyl pg_cl (d + 6) 97 22 [.ref 0, .int x1, .int x2, .int x3, .int x4, .int x5] [.int 0] (cd f2 A3 R4 wr) _
        refine pz_if_eq (off := 22) (t := 44) (by decide +kernel) (by decide) rfl kz_0 (fun h11 => ?_) (fun h11 => by omega)
        refine pe_iconstv (n := 0) (v := 0) (by decide +kernel) (by decide +kernel) ?_
        exact pe_iret (by decide +kernel) rfl rfl ⟨f2, A3, R4, 0, rfl, hIq1, (fun k n529 n530 => (hGq1 k n529 n530)), (fun k n39 n40 n41 => (hFq1 k n39 n40 n41)), (fun k n0 => (hHq1 k n0)), Or.inl ⟨rfl, trivial⟩⟩
      · skip
        refine pe_iconstv (n := 1) (v := 1) (by decide +kernel) (by decide +kernel) ?_
        refine pe_goto (off := 4) (t := 17) (by decide +kernel) (by decide) rfl ?_
        refine pe_iret (by decide +kernel) rfl rfl ⟨rfl, rfl, ?_⟩
        show pmE pg X pg_tyl pg_cl (d + 6) 97 22 [.ref 0, .int x1, .int x2, .int x3, .int x4, .int x5] [.int 1] (cd f2 A3 R4 wr) _
        refine pz_if_eq (off := 22) (t := 44) (by decide +kernel) (by decide) rfl kz_1 (fun h12 => by omega) (fun h12 => ?_)
        refine pe_aload_n (j := 0) (by decide +kernel) rfl ?_
        refine pe_get (j := 34) (ci := 11) (n := 4) (by decide +kernel) (by decide +kernel) cd_o0 rfl ?_
        refine pe_get (j := 287) (ci := 7) (n := 0) (by decide +kernel) (by decide +kernel) cd_o33 rfl ?_
        refine pe_topV (v := .ref v4) (hR0q1) ?_
        refine pe_iload (j := 5) (by decide +kernel) rfl ?_
        refine pi_V (j := 126) (mj := 61) (by decide +kernel) (cll_V (args := [.int x5]) (n := 1) (by decide +kernel) rfl rfl (cv_o hv4) (by decide +kernel) (Nat.le_of_ble_eq_true rfl) (Nat.le_of_ble_eq_true rfl)) ?_
        show pmE pg X pg_tyl pg_cl (d + 5) 61 0 [.ref v4, .int x5] [] (cd f2 A3 R4 wr) _
        refine pe_iload_n (j := 1) (by decide +kernel) rfl ?_
        have lw14 := zi_lo x5
        have uw14 := zi_hi x5
        refine pz_if_lt (off := 15) (t := 16) (by decide +kernel) (by decide) rfl rfl (fun h13 => ?_) (fun h13 => ?_)
        · skip
          refine pe_iconstv (n := 0) (v := 0) (by decide +kernel) (by decide +kernel) ?_
          refine pe_iret (by decide +kernel) rfl rfl ⟨rfl, rfl, ?_⟩
          show pmE pg X pg_tyl pg_cl (d + 6) 97 37 [.ref 0, .int x1, .int x2, .int x3, .int x4, .int x5] [.int 0] (cd f2 A3 R4 wr) _
          refine pz_if_eq (off := 7) (t := 44) (by decide +kernel) (by decide) rfl kz_0 (fun h15 => ?_) (fun h15 => by omega)
          refine pe_iconstv (n := 0) (v := 0) (by decide +kernel) (by decide +kernel) ?_
          exact pe_iret (by decide +kernel) rfl rfl ⟨f2, A3, R4, 0, rfl, hIq1, (fun k n529 n530 => (hGq1 k n529 n530)), (fun k n39 n40 n41 => (hFq1 k n39 n40 n41)), (fun k n0 => (hHq1 k n0)), Or.inl ⟨rfl, trivial⟩⟩
        · skip
          refine pe_iload_n (j := 1) (by decide +kernel) rfl ?_
          refine pe_aload_n (j := 0) (by decide +kernel) rfl ?_
          refine pe_get (j := 9) (ci := 9) (n := 0) (by decide +kernel) (by decide +kernel) (cv_o hv4) rfl ?_
          refine pe_top (v := (f (16 * v4))) ((hGq1 (16 * v4) (by omega) (by omega))) ?_
          refine pz_icmp_ge (off := 7) (t := 16) (by decide +kernel) (by decide) rfl rfl rfl (fun h16 => ?_) (fun h16 => ?_)
          · skip
            refine pe_iconstv (n := 0) (v := 0) (by decide +kernel) (by decide +kernel) ?_
            refine pe_iret (by decide +kernel) rfl rfl ⟨rfl, rfl, ?_⟩
            show pmE pg X pg_tyl pg_cl (d + 6) 97 37 [.ref 0, .int x1, .int x2, .int x3, .int x4, .int x5] [.int 0] (cd f2 A3 R4 wr) _
            refine pz_if_eq (off := 7) (t := 44) (by decide +kernel) (by decide) rfl kz_0 (fun h17 => ?_) (fun h17 => by omega)
            refine pe_iconstv (n := 0) (v := 0) (by decide +kernel) (by decide +kernel) ?_
            exact pe_iret (by decide +kernel) rfl rfl ⟨f2, A3, R4, 0, rfl, hIq1, (fun k n529 n530 => (hGq1 k n529 n530)), (fun k n39 n40 n41 => (hFq1 k n39 n40 n41)), (fun k n0 => (hHq1 k n0)), Or.inl ⟨rfl, trivial⟩⟩
          · skip
            refine pe_iconstv (n := 1) (v := 1) (by decide +kernel) (by decide +kernel) ?_
            refine pe_goto (off := 4) (t := 17) (by decide +kernel) (by decide) rfl ?_
            refine pe_iret (by decide +kernel) rfl rfl ⟨rfl, rfl, ?_⟩
            show pmE pg X pg_tyl pg_cl (d + 6) 97 37 [.ref 0, .int x1, .int x2, .int x3, .int x4, .int x5] [.int 1] (cd f2 A3 R4 wr) _
            refine pz_if_eq (off := 7) (t := 44) (by decide +kernel) (by decide) rfl kz_1 (fun h18 => by omega) (fun h18 => ?_)
            refine pe_iconstv (n := 1) (v := 1) (by decide +kernel) (by decide +kernel) ?_
            refine pe_goto (off := 4) (t := 45) (by decide +kernel) (by decide) rfl ?_
            exact pe_iret (by decide +kernel) rfl rfl ⟨f2, A3, R4, 1, rfl, hIq1, (fun k n529 n530 => (hGq1 k n529 n530)), (fun k n39 n40 n41 => (hFq1 k n39 n40 n41)), (fun k n0 => (hHq1 k n0)), Or.inr (⟨rfl, ⟨v4, hv4, hR0q1⟩, (by omega)⟩)⟩
set_option maxRecDepth 100000 in
set_option maxHeartbeats 8000000 in
theorem CM_141 {X : pm_X} {d : Nat} {wr : pm_W} {f : Nat → Int32} {A : Nat → List Int32} {R : Nat → Value} {x1 x2 x3 x4 : Int32} (hX : XO X) (hI : CI f A R) : pmE pg X pg_tyl pg_cl (d + 6) 141 0 (pm_ent (pm_max pg 141) [.ref 0, .int x1, .int x2, .int x3, .int x4]) [] (cd f A R wr) (fun q => ∃ (f' : Nat → Int32) (A' : Nat → List Int32) (R' : Nat → Value) (r : Int32), q = (some (.int r), cd f' A' R' wr, 0, 0) ∧ CI f' A' R' ∧ (∀ k : Nat, k ≠ 529 → k ≠ 530 → f' k = f k) ∧ (∀ k : Nat, k ≠ 39 → k ≠ 40 → k ≠ 41 → A' k = A k) ∧ (∀ k : Nat, k ≠ 0 → R' k = R k) ∧ ((r = 0 ∧ True) ∨ (r = 1 ∧ (∃ v : Nat, VV v ∧ R' 0 = .ref v) ∧ (0 ≤ x3.toInt ∧ x3.toInt ≤ 30) ∧ (0 ≤ x4.toInt ∧ x4.toInt ≤ 6)))) := by
  show pmE pg X pg_tyl pg_cl (d + 6) 141 0 [.ref 0, .int x1, .int x2, .int x3, .int x4] [] (cd f A R wr) _
  refine pe_aload_n (j := 0) (by decide +kernel) rfl ?_
  refine pe_iload_n (j := 1) (by decide +kernel) rfl ?_
  refine pe_iload_n (j := 2) (by decide +kernel) rfl ?_
  refine pe_iload_n (j := 3) (by decide +kernel) rfl ?_
  refine pz_callV (j := 201) (mj := 98) (by decide +kernel) (cll_V (args := [.int x3, .int x2, .int x1]) (n := 3) (by decide +kernel) rfl rfl cd_o0 (by decide +kernel) (Nat.le_of_ble_eq_true rfl) (Nat.le_of_ble_eq_true rfl)) (CM_98 hX hI) (fun q1a q1b q1c q1d hqq1 => ?_)
  obtain ⟨f2, A3, R4, rq1, eq1, hIq1, hGq1, hFq1, hHq1, kq1⟩ := hqq1
  cases eq1
  refine ⟨rfl, rfl, ?_⟩
  rcases kq1 with kq1 | kq1
  · skip
    obtain ⟨erq1, kq1⟩ := kq1
    subst erq1
    show pmE pg X pg_tyl pg_cl (d + 6) 141 7 [.ref 0, .int x1, .int x2, .int x3, .int x4] [.int 0] (cd f2 A3 R4 wr) _
    refine pz_if_eq (off := 22) (t := 29) (by decide +kernel) (by decide) rfl kz_0 (fun h5 => ?_) (fun h5 => by omega)
    refine pe_iconstv (n := 0) (v := 0) (by decide +kernel) (by decide +kernel) ?_
    exact pe_iret (by decide +kernel) rfl rfl ⟨f2, A3, R4, 0, rfl, hIq1, (fun k n529 n530 => (hGq1 k n529 n530)), (fun k n39 n40 n41 => (hFq1 k n39 n40 n41)), (fun k n0 => (hHq1 k n0)), Or.inl ⟨rfl, trivial⟩⟩
  · skip
    obtain ⟨erq1, kq1⟩ := kq1
    subst erq1
    obtain ⟨⟨v4, hv4, hR0q1⟩, kq1⟩ := kq1
    have bv4 := VV_b hv4
    show pmE pg X pg_tyl pg_cl (d + 6) 141 7 [.ref 0, .int x1, .int x2, .int x3, .int x4] [.int 1] (cd f2 A3 R4 wr) _
    refine pz_if_eq (off := 22) (t := 29) (by decide +kernel) (by decide) rfl kz_1 (fun h6 => by omega) (fun h6 => ?_)
    refine pe_aload_n (j := 0) (by decide +kernel) rfl ?_
    refine pe_get (j := 34) (ci := 11) (n := 4) (by decide +kernel) (by decide +kernel) cd_o0 rfl ?_
    refine pe_get (j := 287) (ci := 7) (n := 0) (by decide +kernel) (by decide +kernel) cd_o33 rfl ?_
    refine pe_topV (v := .ref v4) (hR0q1) ?_
    refine pe_iload (j := 4) (by decide +kernel) rfl ?_
    refine pi_V (j := 142) (mj := 64) (by decide +kernel) (cll_V (args := [.int x4]) (n := 1) (by decide +kernel) rfl rfl (cv_o hv4) (by decide +kernel) (Nat.le_of_ble_eq_true rfl) (Nat.le_of_ble_eq_true rfl)) ?_
    show pmE pg X pg_tyl pg_cl (d + 5) 64 0 [.ref v4, .int x4] [] (cd f2 A3 R4 wr) _
    refine pe_iload_n (j := 1) (by decide +kernel) rfl ?_
    have lw8 := zi_lo x4
    have uw8 := zi_hi x4
    refine pz_if_lt (off := 15) (t := 16) (by decide +kernel) (by decide) rfl rfl (fun h7 => ?_) (fun h7 => ?_)
    · skip
      refine pe_iconstv (n := 0) (v := 0) (by decide +kernel) (by decide +kernel) ?_
      refine pe_iret (by decide +kernel) rfl rfl ⟨rfl, rfl, ?_⟩
      show pmE pg X pg_tyl pg_cl (d + 6) 141 22 [.ref 0, .int x1, .int x2, .int x3, .int x4] [.int 0] (cd f2 A3 R4 wr) _
      refine pz_if_eq (off := 7) (t := 29) (by decide +kernel) (by decide) rfl kz_0 (fun h9 => ?_) (fun h9 => by omega)
      refine pe_iconstv (n := 0) (v := 0) (by decide +kernel) (by decide +kernel) ?_
      exact pe_iret (by decide +kernel) rfl rfl ⟨f2, A3, R4, 0, rfl, hIq1, (fun k n529 n530 => (hGq1 k n529 n530)), (fun k n39 n40 n41 => (hFq1 k n39 n40 n41)), (fun k n0 => (hHq1 k n0)), Or.inl ⟨rfl, trivial⟩⟩
    · skip
      refine pe_iload_n (j := 1) (by decide +kernel) rfl ?_
      refine pe_aload_n (j := 0) (by decide +kernel) rfl ?_
      refine pe_get (j := 31) (ci := 9) (n := 2) (by decide +kernel) (by decide +kernel) (cv_o hv4) rfl ?_
      have hr_f_16v42 := cv_wants hv4 hI
      refine pe_top (v := (f (16 * v4 + 2))) ((hGq1 (16 * v4 + 2) (by omega) (by omega))) ?_
      refine pz_icmp_ge (off := 7) (t := 16) (by decide +kernel) (by decide) rfl rfl rfl (fun h10 => ?_) (fun h10 => ?_)
      · skip
        refine pe_iconstv (n := 0) (v := 0) (by decide +kernel) (by decide +kernel) ?_
        refine pe_iret (by decide +kernel) rfl rfl ⟨rfl, rfl, ?_⟩
        show pmE pg X pg_tyl pg_cl (d + 6) 141 22 [.ref 0, .int x1, .int x2, .int x3, .int x4] [.int 0] (cd f2 A3 R4 wr) _
        refine pz_if_eq (off := 7) (t := 29) (by decide +kernel) (by decide) rfl kz_0 (fun h11 => ?_) (fun h11 => by omega)
        refine pe_iconstv (n := 0) (v := 0) (by decide +kernel) (by decide +kernel) ?_
        exact pe_iret (by decide +kernel) rfl rfl ⟨f2, A3, R4, 0, rfl, hIq1, (fun k n529 n530 => (hGq1 k n529 n530)), (fun k n39 n40 n41 => (hFq1 k n39 n40 n41)), (fun k n0 => (hHq1 k n0)), Or.inl ⟨rfl, trivial⟩⟩
      · skip
        refine pe_iconstv (n := 1) (v := 1) (by decide +kernel) (by decide +kernel) ?_
        refine pe_goto (off := 4) (t := 17) (by decide +kernel) (by decide) rfl ?_
        refine pe_iret (by decide +kernel) rfl rfl ⟨rfl, rfl, ?_⟩
        show pmE pg X pg_tyl pg_cl (d + 6) 141 22 [.ref 0, .int x1, .int x2, .int x3, .int x4] [.int 1] (cd f2 A3 R4 wr) _
        refine pz_if_eq (off := 7) (t := 29) (by decide +kernel) (by decide) rfl kz_1 (fun h12 => by omega) (fun h12 => ?_)
        refine pe_iconstv (n := 1) (v := 1) (by decide +kernel) (by decide +kernel) ?_
        refine pe_goto (off := 4) (t := 30) (by decide +kernel) (by decide) rfl ?_
        exact pe_iret (by decide +kernel) rfl rfl ⟨f2, A3, R4, 1, rfl, hIq1, (fun k n529 n530 => (hGq1 k n529 n530)), (fun k n39 n40 n41 => (hFq1 k n39 n40 n41)), (fun k n0 => (hHq1 k n0)), Or.inr (⟨rfl, ⟨v4, hv4, hR0q1⟩, (by omega)⟩)⟩
