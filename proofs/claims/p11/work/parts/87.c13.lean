set_option maxRecDepth 100000 in
set_option maxHeartbeats 8000000 in
theorem CM_193 {X : pm_X} {d : Nat} {wr : pm_W} {f : Nat → Int32} {A : Nat → List Int32} {R : Nat → Value} {x1 x2 x3 x4 : Int32} (hX : XO X) (hI : CI f A R) : pmE pg X pg_tyl pg_cl (d + 7) 193 0 (pm_ent (pm_max pg 193) [.ref 0, .int x1, .int x2, .int x3, .int x4]) [] (cd f A R wr) (fun q => ∃ (f' : Nat → Int32) (A' : Nat → List Int32) (R' : Nat → Value) (r : Int32), q = (some (.int r), cd f' A' R' wr, 0, 0) ∧ CI f' A' R' ∧ (∀ k : Nat, k ≠ 529 → k ≠ 530 → k ≠ 1095 → f' k = f k) ∧ (∀ k : Nat, k ≠ 39 → k ≠ 40 → k ≠ 41 → k ≠ 74 → k ≠ 77 → k ≠ 80 → k ≠ 81 → k ≠ 82 → A' k = A k) ∧ (∀ k : Nat, k ≠ 0 → k ≠ 3 → R' k = R k) ∧ ((True ∧ True))) := by
  show pmE pg X pg_tyl pg_cl (d + 7) 193 0 [.ref 0, .int x1, .int x2, .int x3, .int x4, pm_dead] [] (cd f A R wr) _
  refine pe_aload_n (j := 0) (by decide +kernel) rfl ?_
  refine pe_iload_n (j := 1) (by decide +kernel) rfl ?_
  refine pe_iload_n (j := 2) (by decide +kernel) rfl ?_
  refine pe_iload_n (j := 3) (by decide +kernel) rfl ?_
  refine pz_callV (j := 351) (mj := 173) (by decide +kernel) (cll_V (args := [.int x3, .int x2, .int x1]) (n := 3) (by decide +kernel) rfl rfl cd_o0 (by decide +kernel) (Nat.le_of_ble_eq_true rfl) (Nat.le_of_ble_eq_true rfl)) (CM_173 hX hI) (fun q1a q1b q1c q1d hqq1 => ?_)
  obtain ⟨f2, A3, R4, rq1, eq1, hIq1, hGq1, hFq1, hHq1, kq1⟩ := hqq1
  cases eq1
  refine ⟨rfl, rfl, ?_⟩
  rcases kq1 with kq1 | kq1
  · skip
    obtain ⟨erq1, kq1⟩ := kq1
    subst erq1
    show pmE pg X pg_tyl pg_cl (d + 7) 193 7 [.ref 0, .int x1, .int x2, .int x3, .int x4, pm_dead] [.int 0] (cd f2 A3 R4 wr) _
    refine pz_if_ne (off := 5) (t := 12) (by decide +kernel) (by decide) rfl kz_0 (fun h5 => by omega) (fun h5 => ?_)
    refine pe_iconstv (n := (-1)) (v := (-1)) (by decide +kernel) (by decide +kernel) ?_
    exact pe_iret (by decide +kernel) rfl rfl ⟨f2, A3, R4, (-1), rfl, hIq1, (fun k n529 n530 n1095 => (hGq1 k n529 n530 n1095)), (fun k n39 n40 n41 n74 n77 n80 n81 n82 => (hFq1 k n39 n40 n41 n74 n77)), (fun k n0 n3 => (hHq1 k n0 n3)), ⟨trivial, trivial⟩⟩
  · skip
    obtain ⟨erq1, kq1⟩ := kq1
    subst erq1
    obtain ⟨⟨v4, hv4, hR0q1, hR3q1⟩, kq1⟩ := kq1
    have bv4 := VV_b hv4
    show pmE pg X pg_tyl pg_cl (d + 7) 193 7 [.ref 0, .int x1, .int x2, .int x3, .int x4, pm_dead] [.int 1] (cd f2 A3 R4 wr) _
    refine pz_if_ne (off := 5) (t := 12) (by decide +kernel) (by decide) rfl kz_1 (fun h6 => ?_) (fun h6 => by omega)
    refine pe_aload_n (j := 0) (by decide +kernel) rfl ?_
    refine pe_get (j := 55) (ci := 11) (n := 7) (by decide +kernel) (by decide +kernel) cd_o0 rfl ?_
    refine pz_callV (j := 382) (mj := 194) (by decide +kernel) (cll_V (args := []) (n := 0) (by decide +kernel) rfl rfl cd_o68 (by decide +kernel) (Nat.le_of_ble_eq_true rfl) (Nat.le_of_ble_eq_true rfl)) (CM_194 hX hIq1 hv4 (hR3q1)) (fun q7a q7b q7c q7d hqq7 => ?_)
    obtain ⟨A8, rq7, eq7, hIq7, hFq7, kq7⟩ := hqq7
    cases eq7
    refine ⟨rfl, rfl, ?_⟩
    show pmE pg X pg_tyl pg_cl (d + 7) 193 19 [.ref 0, .int x1, .int x2, .int x3, .int x4, pm_dead] [.int rq7] (cd f2 A8 R4 wr) _
    refine pe_istore (j := 5) (ls' := [.ref 0, .int x1, .int x2, .int x3, .int x4, .int rq7]) (by decide +kernel) (Nat.le_of_ble_eq_true rfl) rfl ?_
    refine pe_iload (j := 4) (by decide +kernel) rfl ?_
    have lw10 := zi_lo x4
    have uw10 := zi_hi x4
    refine pz_if_eq (off := 11) (t := 34) (by decide +kernel) (by decide) rfl rfl (fun h9 => ?_) (fun h9 => ?_)
    · skip
      refine pe_iload (j := 5) (by decide +kernel) rfl ?_
      refine pe_bipushv (n := 9) (v := 9) (by decide +kernel) (by decide +kernel) ?_
      refine pw_div (by decide +kernel) (by decide +kernel) (fun z11 => ?_)
      exact pe_iret (by decide +kernel) rfl rfl ⟨f2, A8, R4, z11, rfl, hIq7, (fun k n529 n530 n1095 => (hGq1 k n529 n530 n1095)), (fun k n39 n40 n41 n74 n77 n80 n81 n82 => ((hFq7 k n80 n81 n82)).trans ((hFq1 k n39 n40 n41 n74 n77))), (fun k n0 n3 => (hHq1 k n0 n3)), ⟨trivial, trivial⟩⟩
    · skip
      refine pe_iload (j := 5) (by decide +kernel) rfl ?_
      refine pe_bipushv (n := 9) (v := 9) (by decide +kernel) (by decide +kernel) ?_
      refine pw_rem (by decide +kernel) (by decide +kernel) (fun z12 => ?_)
      refine pe_goto (off := 8) (t := 39) (by decide +kernel) (by decide) rfl ?_
      exact pe_iret (by decide +kernel) rfl rfl ⟨f2, A8, R4, z12, rfl, hIq7, (fun k n529 n530 n1095 => (hGq1 k n529 n530 n1095)), (fun k n39 n40 n41 n74 n77 n80 n81 n82 => ((hFq7 k n80 n81 n82)).trans ((hFq1 k n39 n40 n41 n74 n77))), (fun k n0 n3 => (hHq1 k n0 n3)), ⟨trivial, trivial⟩⟩
