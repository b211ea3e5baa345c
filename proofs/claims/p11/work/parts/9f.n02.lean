set_option maxRecDepth 100000 in
set_option maxHeartbeats 8000000 in
theorem NM_265 {X : pm_X} {d : Nat} {wc : pm_W} {f : Nat → Int32} {A : Nat → List Int32} {x1 x2 x3 x4 : Int32} (hc : wc.length = 147) (hI : MI f A) : pmE pg X pg_tyl pg_cl (d + 7) 265 0 (pm_ent (pm_max pg 265) [.ref 147, .int x1, .int x2, .int x3, .int x4]) [] (md wc f A) (fun q => ∃ (f' : Nat → Int32) (A' : Nat → List Int32) (r : Int32), q = (some (.int r), md wc f' A', 0, 0) ∧ MI f' A' ∧ (∀ k : Nat, k ≠ 14 → k ≠ 15 → k ≠ 16 → f' k = f k) ∧ (∀ k : Nat, k ≠ 152 → k ≠ 153 → A' k = A k) ∧ ((r = 0 ∧ True) ∨ (r = 1 ∧ DF (A' 152) (fr (A 148) (610 + 132 * x1.toInt)) 17820 ∧ (0 ≤ x1.toInt ∧ x1.toInt ≤ 1) ∧ ((-1) ≤ x2.toInt ∧ x2.toInt ≤ 2) ∧ (0 ≤ x3.toInt ∧ x3.toInt ≤ 30) ∧ (0 ≤ x4.toInt ∧ x4.toInt ≤ 6)))) := by
  show pmE pg X pg_tyl pg_cl (d + 7) 265 0 [.ref 147, .int x1, .int x2, .int x3, .int x4] [] (md wc f A) _
  refine pe_aload_n (j := 0) (by decide +kernel) rfl ?_
  refine pe_iload_n (j := 1) (by decide +kernel) rfl ?_
  refine pe_iload_n (j := 2) (by decide +kernel) rfl ?_
  refine pe_iload_n (j := 3) (by decide +kernel) rfl ?_
  refine pz_callV (j := 232) (mj := 246) (by decide +kernel) (cll_V (args := [.int x3, .int x2, .int x1]) (n := 3) (by decide +kernel) rfl rfl (md_o hc) (by decide +kernel) (Nat.le_of_ble_eq_true rfl) (Nat.le_of_ble_eq_true rfl)) (NM_246 hc hI) (fun q1a q1b q1c q1d hqq1 => ?_)
  obtain ⟨f2, A3, rq1, eq1, hIq1, hGq1, hFq1, kq1⟩ := hqq1
  cases eq1
  refine ⟨rfl, rfl, ?_⟩
  rcases kq1 with kq1 | kq1
  · skip
    obtain ⟨erq1, kq1⟩ := kq1
    subst erq1
    show pmE pg X pg_tyl pg_cl (d + 7) 265 7 [.ref 147, .int x1, .int x2, .int x3, .int x4] [.int 0] (md wc f2 A3) _
    refine pz_if_eq (off := 21) (t := 28) (by decide +kernel) (by decide) rfl kz_0 (fun h4 => ?_) (fun h4 => by omega)
    refine pe_iconstv (n := 0) (v := 0) (by decide +kernel) (by decide +kernel) ?_
    exact pe_iret (by decide +kernel) rfl rfl ⟨f2, A3, 0, rfl, hIq1, (fun k n14 n15 n16 => (hGq1 k n14 n15 n16)), (fun k n152 n153 => (hFq1 k n152 n153)), Or.inl ⟨rfl, trivial⟩⟩
  · skip
    obtain ⟨erq1, kq1⟩ := kq1
    subst erq1
    obtain ⟨hp5, kq1⟩ := kq1
    show pmE pg X pg_tyl pg_cl (d + 7) 265 7 [.ref 147, .int x1, .int x2, .int x3, .int x4] [.int 1] (md wc f2 A3) _
    refine pz_if_eq (off := 21) (t := 28) (by decide +kernel) (by decide) rfl kz_1 (fun h6 => by omega) (fun h6 => ?_)
    refine pe_aload_n (j := 0) (by decide +kernel) rfl ?_
    refine pe_iconstv (n := 0) (v := 0) (by decide +kernel) (by decide +kernel) ?_
    refine pe_iload_n (j := 1) (by decide +kernel) rfl ?_
    refine pi_S (j := 163) (mj := 217) (by decide +kernel) (by decide +kernel) rfl ?_
    show pmE pg X pg_tyl pg_cl (d + 6) 217 0 [.int 0, .int x1] [] (md wc f2 A3) _
    refine pe_iload_n (j := 0) (by decide +kernel) rfl ?_
    refine pz_if_ne (off := 15) (t := 16) (by decide +kernel) (by decide) rfl kz_0 (fun h7 => by omega) (fun h7 => ?_)
    refine pe_sipushv (n := 610) (v := 610) (by decide +kernel) (by decide +kernel) ?_
    refine pe_sipushv (n := 132) (v := 132) (by decide +kernel) (by decide +kernel) ?_
    refine pe_iload_n (j := 1) (by decide +kernel) rfl ?_
    refine pz_mul (by decide +kernel) kz_132 rfl (by omega) (by omega) (fun z8 hz8 => ?_)
    refine pz_add (by decide +kernel) kz_610 hz8 (by omega) (by omega) (fun z9 hz9 => ?_)
    clear hz8
    refine pe_goto (off := 12) (t := 25) (by decide +kernel) (by decide) rfl ?_
    refine pe_iret (by decide +kernel) rfl rfl ⟨rfl, rfl, ?_⟩
    show pmE pg X pg_tyl pg_cl (d + 7) 265 16 [.ref 147, .int x1, .int x2, .int x3, .int x4] [.int z9, .ref 147] (md wc f2 A3) _
    refine pe_iload (j := 4) (by decide +kernel) rfl ?_
    refine pi_V (j := 169) (mj := 223) (by decide +kernel) (cll_V (args := [.int x4, .int z9]) (n := 2) (by decide +kernel) rfl rfl (md_o hc) (by decide +kernel) (Nat.le_of_ble_eq_true rfl) (Nat.le_of_ble_eq_true rfl)) ?_
    show pmE pg X pg_tyl pg_cl (d + 6) 223 0 [.ref 147, .int z9, .int x4] [] (md wc f2 A3) _
    refine pe_iload_n (j := 2) (by decide +kernel) rfl ?_
    refine pe_iconstv (n := 0) (v := 0) (by decide +kernel) (by decide +kernel) ?_
    refine pe_aload_n (j := 0) (by decide +kernel) rfl ?_
    refine pe_get (j := 7) (ci := 12) (n := 0) (by decide +kernel) (by decide +kernel) (md_o hc) rfl ?_
    refine pe_iload_n (j := 1) (by decide +kernel) rfl ?_
    refine pe_iconstv (n := 1) (v := 1) (by decide +kernel) (by decide +kernel) ?_
    refine pz_add (by decide +kernel) hz9 kz_1 (by omega) (by omega) (fun z10 hz10 => ?_)
    refine pz_iald (by decide +kernel) (md_a148 hc) (mlen_148 hIq1) hz10 (by omega) (by omega) (fun v11 ev11 => ?_)
    have rv11 : 0 ≤ v11.toInt ∧ v11.toInt ≤ 7 := MT_wants (mt_148 hIq1 ev11 (by omega)) (by omega)
    rw [show A3 148 = A 148 from (hFq1 148 (by decide) (by decide))] at ev11
    clear hz10
    refine pe_iconstv (n := 1) (v := 1) (by decide +kernel) (by decide +kernel) ?_
    refine pz_sub (by decide +kernel) rfl kz_1 (by omega) (by omega) (fun z12 hz12 => ?_)
    refine pi_S (j := 119) (mj := 199) (by decide +kernel) (by decide +kernel) rfl ?_
    show pmE pg X pg_tyl pg_cl (d + 5) 199 0 [.int x4, .int 0, .int z12] [] (md wc f2 A3) _
    refine pe_iload_n (j := 0) (by decide +kernel) rfl ?_
    refine pe_iload_n (j := 1) (by decide +kernel) rfl ?_
    have lw14 := zi_lo x4
    have uw14 := zi_hi x4
    refine pz_icmp_lt (off := 12) (t := 14) (by decide +kernel) (by decide) rfl rfl kz_0 (fun h13 => ?_) (fun h13 => ?_)
    · skip
      refine pe_iconstv (n := 0) (v := 0) (by decide +kernel) (by decide +kernel) ?_
      refine pe_iret (by decide +kernel) rfl rfl ⟨rfl, rfl, ?_⟩
      show pmE pg X pg_tyl pg_cl (d + 6) 223 15 [.ref 147, .int z9, .int x4] [.int 0] (md wc f2 A3) _
      refine pe_iret (by decide +kernel) rfl rfl ⟨rfl, rfl, ?_⟩
      show pmE pg X pg_tyl pg_cl (d + 7) 265 21 [.ref 147, .int x1, .int x2, .int x3, .int x4] [.int 0] (md wc f2 A3) _
      refine pz_if_eq (off := 7) (t := 28) (by decide +kernel) (by decide) rfl kz_0 (fun h15 => ?_) (fun h15 => by omega)
      refine pe_iconstv (n := 0) (v := 0) (by decide +kernel) (by decide +kernel) ?_
      exact pe_iret (by decide +kernel) rfl rfl ⟨f2, A3, 0, rfl, hIq1, (fun k n14 n15 n16 => (hGq1 k n14 n15 n16)), (fun k n152 n153 => (hFq1 k n152 n153)), Or.inl ⟨rfl, trivial⟩⟩
    · skip
      refine pe_iload_n (j := 0) (by decide +kernel) rfl ?_
      refine pe_iload_n (j := 2) (by decide +kernel) rfl ?_
      refine pz_icmp_gt (off := 7) (t := 14) (by decide +kernel) (by decide) rfl rfl hz12 (fun h16 => ?_) (fun h16 => ?_)
      · skip
        refine pe_iconstv (n := 0) (v := 0) (by decide +kernel) (by decide +kernel) ?_
        refine pe_iret (by decide +kernel) rfl rfl ⟨rfl, rfl, ?_⟩
        show pmE pg X pg_tyl pg_cl (d + 6) 223 15 [.ref 147, .int z9, .int x4] [.int 0] (md wc f2 A3) _
        refine pe_iret (by decide +kernel) rfl rfl ⟨rfl, rfl, ?_⟩
        show pmE pg X pg_tyl pg_cl (d + 7) 265 21 [.ref 147, .int x1, .int x2, .int x3, .int x4] [.int 0] (md wc f2 A3) _
        refine pz_if_eq (off := 7) (t := 28) (by decide +kernel) (by decide) rfl kz_0 (fun h17 => ?_) (fun h17 => by omega)
        refine pe_iconstv (n := 0) (v := 0) (by decide +kernel) (by decide +kernel) ?_
        exact pe_iret (by decide +kernel) rfl rfl ⟨f2, A3, 0, rfl, hIq1, (fun k n14 n15 n16 => (hGq1 k n14 n15 n16)), (fun k n152 n153 => (hFq1 k n152 n153)), Or.inl ⟨rfl, trivial⟩⟩
      · skip
        refine pe_iconstv (n := 1) (v := 1) (by decide +kernel) (by decide +kernel) ?_
        refine pe_goto (off := 4) (t := 15) (by decide +kernel) (by decide) rfl ?_
        refine pe_iret (by decide +kernel) rfl rfl ⟨rfl, rfl, ?_⟩
        show pmE pg X pg_tyl pg_cl (d + 6) 223 15 [.ref 147, .int z9, .int x4] [.int 1] (md wc f2 A3) _
        refine pe_iret (by decide +kernel) rfl rfl ⟨rfl, rfl, ?_⟩
        show pmE pg X pg_tyl pg_cl (d + 7) 265 21 [.ref 147, .int x1, .int x2, .int x3, .int x4] [.int 1] (md wc f2 A3) _
        refine pz_if_eq (off := 7) (t := 28) (by decide +kernel) (by decide) rfl kz_1 (fun h18 => by omega) (fun h18 => ?_)
        refine pe_iconstv (n := 1) (v := 1) (by decide +kernel) (by decide +kernel) ?_
        refine pe_goto (off := 4) (t := 29) (by decide +kernel) (by decide) rfl ?_
        exact pe_iret (by decide +kernel) rfl rfl ⟨f2, A3, 1, rfl, hIq1, (fun k n14 n15 n16 => (hGq1 k n14 n15 n16)), (fun k n152 n153 => (hFq1 k n152 n153)), Or.inr (⟨rfl, hp5, (by omega)⟩)⟩
set_option maxRecDepth 100000 in
set_option maxHeartbeats 8000000 in
theorem NL_276_111 {X : pm_X} {d : Nat} {wc : pm_W} {Q : pm_R → Prop} {f : Nat → Int32} {A0 : Nat → List Int32} {x1 x2 x3 x4 x5 x6 x7 x8 x9 : Int32} (hc : wc.length = 147) (gx1 : (0 ≤ x1.toInt ∧ x1.toInt ≤ 1)) (gx2 : ((-1) ≤ x2.toInt ∧ x2.toInt ≤ 2)) (gx3 : (0 ≤ x3.toInt ∧ x3.toInt ≤ 30)) (gx4 : (0 ≤ x4.toInt ∧ x4.toInt ≤ 6)) (gx5 : (610 ≤ x5.toInt ∧ x5.toInt ≤ 742 ∧ (x5.toInt - 610) % 132 = 0)) (gx6 : (0 ≤ x6.toInt ∧ x6.toInt ≤ 8)) (gx7 : (0 ≤ x7.toInt ∧ x7.toInt ≤ 8)) (gx8 : (0 ≤ x8.toInt ∧ x8.toInt ≤ 99)) (gx9 : (0 ≤ x9.toInt ∧ x9.toInt ≤ 8)) (hpk0 : N0 (A0 152)) (k_152_0 : ∀ (A' : Nat → List Int32) (y10 : Int32), MI f A' → (∀ k : Nat, k ≠ 161 → A' k = A0 k) → (0 ≤ y10.toInt ∧ y10.toInt ≤ 9) → True → pmE pg X pg_tyl pg_cl (d + 8) 276 152 [.ref 147, .int x1, .int x2, .int x3, .int x4, .int x5, .int x6, .int x7, .int x8, .int x9, .int y10] [] (md wc f A') Q) : ∀ (m : Nat) (A : Nat → List Int32) (x10 : Int32), MI f A → (∀ k : Nat, k ≠ 161 → A k = A0 k) → (0 ≤ x10.toInt ∧ x10.toInt ≤ 9) → True → 9 - x10.toInt < (m : Int) → pmE pg X pg_tyl pg_cl (d + 8) 276 111 [.ref 147, .int x1, .int x2, .int x3, .int x4, .int x5, .int x6, .int x7, .int x8, .int x9, .int x10] [] (md wc f A) Q := by
  intro m
  induction m with
  | zero =>
    intro A x10 hI hF gx10 hpi0 hm
    exfalso
    have l0 := zi_lo x10
    have u0 := zi_hi x10
    omega
  | succ m ih =>
    intro A x10 hI hF gx10 hpi0 hm
    refine pe_iload (j := 10) (by decide +kernel) rfl ?_
    refine pe_aload_n (j := 0) (by decide +kernel) rfl ?_
    refine pe_get (j := 7) (ci := 12) (n := 0) (by decide +kernel) (by decide +kernel) (md_o hc) rfl ?_
    refine pe_iload (j := 5) (by decide +kernel) rfl ?_
    refine pz_iald (by decide +kernel) (md_a148 hc) (mlen_148 hI) rfl (by omega) (by omega) (fun v1 ev1 => ?_)
    have rv1 : 0 ≤ v1.toInt ∧ v1.toInt ≤ 9 := MT_people (mt_148 hI ev1 (by omega)) (by omega)
    rw [show A 148 = A0 148 from (hF 148 (by decide))] at ev1
    refine pz_icmp_ge (off := 32) (t := 152) (by decide +kernel) (by decide) rfl rfl rfl (fun h2 => ?_) (fun h2 => ?_)
    · skip
      exact k_152_0 A x10 hI (fun k n161 => (hF k n161)) (by omega) trivial
    · skip
      refine pe_aload_n (j := 0) (by decide +kernel) rfl ?_
      refine pe_get (j := 50) (ci := 12) (n := 26) (by decide +kernel) (by decide +kernel) (md_o hc) rfl ?_
      refine pe_bipushv (n := 10) (v := 10) (by decide +kernel) (by decide +kernel) ?_
      refine pe_iload (j := 9) (by decide +kernel) rfl ?_
      refine pz_mul (by decide +kernel) kz_10 rfl (by omega) (by omega) (fun z3 hz3 => ?_)
      refine pe_iload (j := 10) (by decide +kernel) rfl ?_
      refine pz_add (by decide +kernel) hz3 rfl (by omega) (by omega) (fun z4 hz4 => ?_)
      clear hz3
      refine pe_aload_n (j := 0) (by decide +kernel) rfl ?_
      refine pe_iload (j := 5) (by decide +kernel) rfl ?_
      refine pe_iload (j := 9) (by decide +kernel) rfl ?_
      refine pe_iload (j := 10) (by decide +kernel) rfl ?_
      refine pz_callV (j := 199) (mj := 231) (by decide +kernel) (cll_V (args := [.int x10, .int x9, .int x5]) (n := 3) (by decide +kernel) rfl rfl (md_o hc) (by decide +kernel) (Nat.le_of_ble_eq_true rfl) (Nat.le_of_ble_eq_true rfl)) (NM_231 hc hI (by omega) (by omega) (by omega) (by rw [show A 152 = A0 152 from (hF 152 (by decide))]; exact hpk0)) (fun q5a q5b q5c q5d hqq5 => ?_)
      obtain ⟨rq5, eq5, hX0q5, kq5⟩ := hqq5
      cases eq5
      refine ⟨rfl, rfl, ?_⟩
      show pmE pg X pg_tyl pg_cl (d + 8) 276 145 [.ref 147, .int x1, .int x2, .int x3, .int x4, .int x5, .int x6, .int x7, .int x8, .int x9, .int x10] [.int rq5, .int z4, .ref 161] (md wc f A) _
      refine mz_st161 (by decide +kernel) hc hI hz4 (by omega) (by omega) (fun A6 eA6 hIA6 => ?_)
      refine pz_iinc (j := 10) (n := 1) (by decide +kernel) rfl rfl (by decide +kernel) (by omega) (by omega) (fun z7 hz7 => ?_)
      show pmE pg X pg_tyl pg_cl (d + 8) 276 149 [.ref 147, .int x1, .int x2, .int x3, .int x4, .int x5, .int x6, .int x7, .int x8, .int x9, .int z7] [] (md wc f A6) _
      refine pe_goto (off := (-38)) (t := 111) (by decide +kernel) (by decide) rfl ?_
      exact ih A6 z7 hIA6 (fun k n161 => (upa_fr eA6 n161).trans ((hF k n161))) (by omega) trivial (by omega)
set_option maxRecDepth 100000 in
set_option maxHeartbeats 8000000 in
theorem NL_276_96 {X : pm_X} {d : Nat} {wc : pm_W} {Q : pm_R → Prop} {f : Nat → Int32} {A0 : Nat → List Int32} {x1 x2 x3 x4 x5 x6 x7 x8 : Int32} (hc : wc.length = 147) (gx1 : (0 ≤ x1.toInt ∧ x1.toInt ≤ 1)) (gx2 : ((-1) ≤ x2.toInt ∧ x2.toInt ≤ 2)) (gx3 : (0 ≤ x3.toInt ∧ x3.toInt ≤ 30)) (gx4 : (0 ≤ x4.toInt ∧ x4.toInt ≤ 6)) (gx5 : (610 ≤ x5.toInt ∧ x5.toInt ≤ 742 ∧ (x5.toInt - 610) % 132 = 0)) (gx6 : (0 ≤ x6.toInt ∧ x6.toInt ≤ 8)) (gx7 : (0 ≤ x7.toInt ∧ x7.toInt ≤ 8)) (gx8 : (0 ≤ x8.toInt ∧ x8.toInt ≤ 99)) (hpk0 : N0 (A0 152)) (k_158_0 : ∀ (A' : Nat → List Int32) (y9 : Int32) (v10 : Value), MI f A' → (∀ k : Nat, k ≠ 161 → A' k = A0 k) → (0 ≤ y9.toInt ∧ y9.toInt ≤ 9) → True → pmE pg X pg_tyl pg_cl (d + 8) 276 158 [.ref 147, .int x1, .int x2, .int x3, .int x4, .int x5, .int x6, .int x7, .int x8, .int y9, v10] [] (md wc f A') Q) : ∀ (m : Nat) (A : Nat → List Int32) (x9 : Int32) (u10 : Value), MI f A → (∀ k : Nat, k ≠ 161 → A k = A0 k) → (0 ≤ x9.toInt ∧ x9.toInt ≤ 9) → True → 9 - x9.toInt < (m : Int) → pmE pg X pg_tyl pg_cl (d + 8) 276 96 [.ref 147, .int x1, .int x2, .int x3, .int x4, .int x5, .int x6, .int x7, .int x8, .int x9, u10] [] (md wc f A) Q := by
  intro m
  induction m with
  | zero =>
    intro A x9 u10 hI hF gx9 hpi0 hm
    exfalso
    have l0 := zi_lo x9
    have u0 := zi_hi x9
    omega
  | succ m ih =>
    intro A x9 u10 hI hF gx9 hpi0 hm
    refine pe_iload (j := 9) (by decide +kernel) rfl ?_
    refine pe_aload_n (j := 0) (by decide +kernel) rfl ?_
    refine pe_get (j := 7) (ci := 12) (n := 0) (by decide +kernel) (by decide +kernel) (md_o hc) rfl ?_
    refine pe_iload (j := 5) (by decide +kernel) rfl ?_
    refine pz_iald (by decide +kernel) (md_a148 hc) (mlen_148 hI) rfl (by omega) (by omega) (fun v1 ev1 => ?_)
    have rv1 : 0 ≤ v1.toInt ∧ v1.toInt ≤ 9 := MT_people (mt_148 hI ev1 (by omega)) (by omega)
    rw [show A 148 = A0 148 from (hF 148 (by decide))] at ev1
    refine pz_icmp_ge (off := 53) (t := 158) (by decide +kernel) (by decide) rfl rfl rfl (fun h2 => ?_) (fun h2 => ?_)
    · skip
      exact k_158_0 A x9 (u10) hI (fun k n161 => (hF k n161)) (by omega) trivial
    · skip
      refine pe_iconstv (n := 0) (v := 0) (by decide +kernel) (by decide +kernel) ?_
      refine pe_istore (j := 10) (ls' := [.ref 147, .int x1, .int x2, .int x3, .int x4, .int x5, .int x6, .int x7, .int x8, .int x9, .int 0]) (by decide +kernel) (Nat.le_of_ble_eq_true rfl) rfl ?_
      refine NL_276_111 hc (by omega) (by omega) (by omega) (by omega) (by omega) (by omega) (by omega) (by omega) (by omega) (by rw [show A 152 = A0 152 from (hF 152 (by decide))]; exact hpk0) (fun A3 y4 hIy5 hFA3 gy4 hp6 => ?_) 10 A 0 hI (fun k _ => rfl) (by decide +kernel) trivial (by decide +kernel)
      refine pz_iinc (j := 9) (n := 1) (by decide +kernel) rfl rfl (by decide +kernel) (by omega) (by omega) (fun z7 hz7 => ?_)
      show pmE pg X pg_tyl pg_cl (d + 8) 276 155 [.ref 147, .int x1, .int x2, .int x3, .int x4, .int x5, .int x6, .int x7, .int x8, .int z7, .int y4] [] (md wc f A3) _
      refine pe_goto (off := (-59)) (t := 96) (by decide +kernel) (by decide) rfl ?_
      exact ih A3 z7 (.int y4) hIy5 (fun k n161 => ((hFA3 k n161)).trans ((hF k n161))) (by omega) trivial (by omega)
set_option maxRecDepth 100000 in
set_option maxHeartbeats 8000000 in
theorem NM_276 {X : pm_X} {d : Nat} {wc : pm_W} {f : Nat → Int32} {A : Nat → List Int32} {x1 x2 x3 x4 : Int32} (hc : wc.length = 147) (hI : MI f A) : pmE pg X pg_tyl pg_cl (d + 8) 276 0 (pm_ent (pm_max pg 276) [.ref 147, .int x1, .int x2, .int x3, .int x4]) [] (md wc f A) (fun q => ∃ (f' : Nat → Int32) (A' : Nat → List Int32) (r : Int32), q = (some (.int r), md wc f' A', 0, 0) ∧ MI f' A' ∧ (∀ k : Nat, k ≠ 14 → k ≠ 15 → k ≠ 16 → f' k = f k) ∧ (∀ k : Nat, k ≠ 152 → k ≠ 153 → k ≠ 160 → k ≠ 161 → k ≠ 162 → k ≠ 163 → k ≠ 164 → A' k = A k) ∧ ((((-1000000) ≤ r.toInt ∧ r.toInt ≤ 1000099) ∧ True))) := by
  show pmE pg X pg_tyl pg_cl (d + 8) 276 0 [.ref 147, .int x1, .int x2, .int x3, .int x4, pm_dead, pm_dead, pm_dead, pm_dead, pm_dead, pm_dead] [] (md wc f A) _
  refine pe_aload_n (j := 0) (by decide +kernel) rfl ?_
  refine pe_iload_n (j := 1) (by decide +kernel) rfl ?_
  refine pe_iload_n (j := 2) (by decide +kernel) rfl ?_
  refine pe_iload_n (j := 3) (by decide +kernel) rfl ?_
  refine pe_iload (j := 4) (by decide +kernel) rfl ?_
  refine pz_callV (j := 303) (mj := 265) (by decide +kernel) (cll_V (args := [.int x4, .int x3, .int x2, .int x1]) (n := 4) (by decide +kernel) rfl rfl (md_o hc) (by decide +kernel) (Nat.le_of_ble_eq_true rfl) (Nat.le_of_ble_eq_true rfl)) (NM_265 hc hI) (fun q1a q1b q1c q1d hqq1 => ?_)
  obtain ⟨f2, A3, rq1, eq1, hIq1, hGq1, hFq1, kq1⟩ := hqq1
  cases eq1
  refine ⟨rfl, rfl, ?_⟩
  rcases kq1 with kq1 | kq1
  · skip
    obtain ⟨erq1, kq1⟩ := kq1
    subst erq1
    show pmE pg X pg_tyl pg_cl (d + 8) 276 9 [.ref 147, .int x1, .int x2, .int x3, .int x4, pm_dead, pm_dead, pm_dead, pm_dead, pm_dead, pm_dead] [.int 0] (md wc f2 A3) _
    refine pz_if_ne (off := 5) (t := 14) (by decide +kernel) (by decide) rfl kz_0 (fun h4 => by omega) (fun h4 => ?_)
    refine pe_iconstv (n := (-1)) (v := (-1)) (by decide +kernel) (by decide +kernel) ?_
    exact pe_iret (by decide +kernel) rfl rfl ⟨f2, A3, (-1), rfl, hIq1, (fun k n14 n15 n16 => (hGq1 k n14 n15 n16)), (fun k n152 n153 n160 n161 n162 n163 n164 => (hFq1 k n152 n153)), ⟨(by decide +kernel), trivial⟩⟩
  · skip
    obtain ⟨erq1, kq1⟩ := kq1
    subst erq1
    obtain ⟨hp5, kq1⟩ := kq1
    show pmE pg X pg_tyl pg_cl (d + 8) 276 9 [.ref 147, .int x1, .int x2, .int x3, .int x4, pm_dead, pm_dead, pm_dead, pm_dead, pm_dead, pm_dead] [.int 1] (md wc f2 A3) _
    refine pz_if_ne (off := 5) (t := 14) (by decide +kernel) (by decide) rfl kz_1 (fun h6 => ?_) (fun h6 => by omega)
    refine pe_iconstv (n := 0) (v := 0) (by decide +kernel) (by decide +kernel) ?_
    refine pe_iload_n (j := 1) (by decide +kernel) rfl ?_
    refine pi_S (j := 163) (mj := 217) (by decide +kernel) (by decide +kernel) rfl ?_
    show pmE pg X pg_tyl pg_cl (d + 7) 217 0 [.int 0, .int x1] [] (md wc f2 A3) _
    refine pe_iload_n (j := 0) (by decide +kernel) rfl ?_
    refine pz_if_ne (off := 15) (t := 16) (by decide +kernel) (by decide) rfl kz_0 (fun h7 => by omega) (fun h7 => ?_)
    refine pe_sipushv (n := 610) (v := 610) (by decide +kernel) (by decide +kernel) ?_
    refine pe_sipushv (n := 132) (v := 132) (by decide +kernel) (by decide +kernel) ?_
    refine pe_iload_n (j := 1) (by decide +kernel) rfl ?_
    refine pz_mul (by decide +kernel) kz_132 rfl (by omega) (by omega) (fun z8 hz8 => ?_)
    refine pz_add (by decide +kernel) kz_610 hz8 (by omega) (by omega) (fun z9 hz9 => ?_)
    clear hz8
    refine pe_goto (off := 12) (t := 25) (by decide +kernel) (by decide) rfl ?_
    refine pe_iret (by decide +kernel) rfl rfl ⟨rfl, rfl, ?_⟩
    show pmE pg X pg_tyl pg_cl (d + 8) 276 19 [.ref 147, .int x1, .int x2, .int x3, .int x4, pm_dead, pm_dead, pm_dead, pm_dead, pm_dead, pm_dead] [.int z9] (md wc f2 A3) _
    refine pe_istore (j := 5) (ls' := [.ref 147, .int x1, .int x2, .int x3, .int x4, .int z9, pm_dead, pm_dead, pm_dead, pm_dead, pm_dead]) (by decide +kernel) (Nat.le_of_ble_eq_true rfl) rfl ?_
    refine pe_aload_n (j := 0) (by decide +kernel) rfl ?_
    refine pe_iload (j := 5) (by decide +kernel) rfl ?_
    refine pe_iload (j := 4) (by decide +kernel) rfl ?_
    refine pe_iconstv (n := 0) (v := 0) (by decide +kernel) (by decide +kernel) ?_
    refine pi_V (j := 172) (mj := 224) (by decide +kernel) (cll_V (args := [.int 0, .int x4, .int z9]) (n := 3) (by decide +kernel) rfl rfl (md_o hc) (by decide +kernel) (Nat.le_of_ble_eq_true rfl) (Nat.le_of_ble_eq_true rfl)) ?_
    show pmE pg X pg_tyl pg_cl (d + 7) 224 0 [.ref 147, .int z9, .int x4, .int 0] [] (md wc f2 A3) _
    refine pe_aload_n (j := 0) (by decide +kernel) rfl ?_
    refine pe_get (j := 7) (ci := 12) (n := 0) (by decide +kernel) (by decide +kernel) (md_o hc) rfl ?_
    refine pe_iload_n (j := 1) (by decide +kernel) rfl ?_
    refine pe_bipushv (n := 102) (v := 102) (by decide +kernel) (by decide +kernel) ?_
    refine pz_add (by decide +kernel) hz9 kz_102 (by omega) (by omega) (fun z10 hz10 => ?_)
    refine pe_iconstv (n := 4) (v := 4) (by decide +kernel) (by decide +kernel) ?_
    refine pe_iload_n (j := 2) (by decide +kernel) rfl ?_
    refine pz_mul (by decide +kernel) kz_4 rfl (by omega) (by omega) (fun z11 hz11 => ?_)
    refine pz_add (by decide +kernel) hz10 hz11 (by omega) (by omega) (fun z12 hz12 => ?_)
    clear hz10 hz11
    refine pe_iload_n (j := 3) (by decide +kernel) rfl ?_
    refine pz_add (by decide +kernel) hz12 kz_0 (by omega) (by omega) (fun z13 hz13 => ?_)
    clear hz12
    refine pz_iald (by decide +kernel) (md_a148 hc) (mlen_148 hIq1) hz13 (by omega) (by omega) (fun v14 ev14 => ?_)
    have rv14 : 0 ≤ v14.toInt ∧ v14.toInt ≤ 8 := MT_want (mt_148 hIq1 ev14 (by omega)) (by omega)
    rw [show A3 148 = A 148 from (hFq1 148 (by decide) (by decide))] at ev14
    clear hz13
    refine pe_iret (by decide +kernel) rfl rfl ⟨rfl, rfl, ?_⟩
    show pmE pg X pg_tyl pg_cl (d + 8) 276 30 [.ref 147, .int x1, .int x2, .int x3, .int x4, .int z9, pm_dead, pm_dead, pm_dead, pm_dead, pm_dead] [.int v14] (md wc f2 A3) _
    refine pe_istore (j := 6) (ls' := [.ref 147, .int x1, .int x2, .int x3, .int x4, .int z9, .int v14, pm_dead, pm_dead, pm_dead, pm_dead]) (by decide +kernel) (Nat.le_of_ble_eq_true rfl) rfl ?_
    refine pe_aload_n (j := 0) (by decide +kernel) rfl ?_
    refine pe_iload (j := 5) (by decide +kernel) rfl ?_
    refine pe_iload (j := 4) (by decide +kernel) rfl ?_
    refine pe_iconstv (n := 1) (v := 1) (by decide +kernel) (by decide +kernel) ?_
    refine pi_V (j := 172) (mj := 224) (by decide +kernel) (cll_V (args := [.int 1, .int x4, .int z9]) (n := 3) (by decide +kernel) rfl rfl (md_o hc) (by decide +kernel) (Nat.le_of_ble_eq_true rfl) (Nat.le_of_ble_eq_true rfl)) ?_
    show pmE pg X pg_tyl pg_cl (d + 7) 224 0 [.ref 147, .int z9, .int x4, .int 1] [] (md wc f2 A3) _
    refine pe_aload_n (j := 0) (by decide +kernel) rfl ?_
    refine pe_get (j := 7) (ci := 12) (n := 0) (by decide +kernel) (by decide +kernel) (md_o hc) rfl ?_
    refine pe_iload_n (j := 1) (by decide +kernel) rfl ?_
    refine pe_bipushv (n := 102) (v := 102) (by decide +kernel) (by decide +kernel) ?_
    refine pz_add (by decide +kernel) hz9 kz_102 (by omega) (by omega) (fun z15 hz15 => ?_)
    refine pe_iconstv (n := 4) (v := 4) (by decide +kernel) (by decide +kernel) ?_
    refine pe_iload_n (j := 2) (by decide +kernel) rfl ?_
    refine pz_mul (by decide +kernel) kz_4 rfl (by omega) (by omega) (fun z16 hz16 => ?_)
    refine pz_add (by decide +kernel) hz15 hz16 (by omega) (by omega) (fun z17 hz17 => ?_)
    clear hz15 hz16
    refine pe_iload_n (j := 3) (by decide +kernel) rfl ?_
    refine pz_add (by decide +kernel) hz17 kz_1 (by omega) (by omega) (fun z18 hz18 => ?_)
    clear hz17
    refine pz_iald (by decide +kernel) (md_a148 hc) (mlen_148 hIq1) hz18 (by omega) (by omega) (fun v19 ev19 => ?_)
    have rv19 : 0 ≤ v19.toInt ∧ v19.toInt ≤ 8 := MT_want (mt_148 hIq1 ev19 (by omega)) (by omega)
    rw [show A3 148 = A 148 from (hFq1 148 (by decide) (by decide))] at ev19
    clear hz18
    refine pe_iret (by decide +kernel) rfl rfl ⟨rfl, rfl, ?_⟩
    show pmE pg X pg_tyl pg_cl (d + 8) 276 41 [.ref 147, .int x1, .int x2, .int x3, .int x4, .int z9, .int v14, pm_dead, pm_dead, pm_dead, pm_dead] [.int v19] (md wc f2 A3) _
    refine pe_istore (j := 7) (ls' := [.ref 147, .int x1, .int x2, .int x3, .int x4, .int z9, .int v14, .int v19, pm_dead, pm_dead, pm_dead]) (by decide +kernel) (Nat.le_of_ble_eq_true rfl) rfl ?_
    refine pe_aload_n (j := 0) (by decide +kernel) rfl ?_
    refine pe_iload (j := 5) (by decide +kernel) rfl ?_
    refine pe_iload (j := 6) (by decide +kernel) rfl ?_
    refine pe_iload (j := 7) (by decide +kernel) rfl ?_
    refine pz_callV (j := 199) (mj := 231) (by decide +kernel) (cll_V (args := [.int v19, .int v14, .int z9]) (n := 3) (by decide +kernel) rfl rfl (md_o hc) (by decide +kernel) (Nat.le_of_ble_eq_true rfl) (Nat.le_of_ble_eq_true rfl)) (NM_231 hc hIq1 (by omega) (by omega) (by omega) (DF_n0 hp5 (by decide))) (fun q20a q20b q20c q20d hqq20 => ?_)
    obtain ⟨rq20, eq20, hX0q20, kq20⟩ := hqq20
    cases eq20
    refine ⟨rfl, rfl, ?_⟩
    show pmE pg X pg_tyl pg_cl (d + 8) 276 53 [.ref 147, .int x1, .int x2, .int x3, .int x4, .int z9, .int v14, .int v19, pm_dead, pm_dead, pm_dead] [.int rq20] (md wc f2 A3) _
    refine pe_aload_n (j := 0) (by decide +kernel) rfl ?_
    refine pe_iload (j := 5) (by decide +kernel) rfl ?_
    refine pe_iload (j := 4) (by decide +kernel) rfl ?_
    refine pe_iconstv (n := 2) (v := 2) (by decide +kernel) (by decide +kernel) ?_
    refine pi_V (j := 172) (mj := 224) (by decide +kernel) (cll_V (args := [.int 2, .int x4, .int z9]) (n := 3) (by decide +kernel) rfl rfl (md_o hc) (by decide +kernel) (Nat.le_of_ble_eq_true rfl) (Nat.le_of_ble_eq_true rfl)) ?_
    show pmE pg X pg_tyl pg_cl (d + 7) 224 0 [.ref 147, .int z9, .int x4, .int 2] [] (md wc f2 A3) _
    refine pe_aload_n (j := 0) (by decide +kernel) rfl ?_
    refine pe_get (j := 7) (ci := 12) (n := 0) (by decide +kernel) (by decide +kernel) (md_o hc) rfl ?_
    refine pe_iload_n (j := 1) (by decide +kernel) rfl ?_
    refine pe_bipushv (n := 102) (v := 102) (by decide +kernel) (by decide +kernel) ?_
    refine pz_add (by decide +kernel) hz9 kz_102 (by omega) (by omega) (fun z21 hz21 => ?_)
    refine pe_iconstv (n := 4) (v := 4) (by decide +kernel) (by decide +kernel) ?_
    refine pe_iload_n (j := 2) (by decide +kernel) rfl ?_
    refine pz_mul (by decide +kernel) kz_4 rfl (by omega) (by omega) (fun z22 hz22 => ?_)
    refine pz_add (by decide +kernel) hz21 hz22 (by omega) (by omega) (fun z23 hz23 => ?_)
    clear hz21 hz22
    refine pe_iload_n (j := 3) (by decide +kernel) rfl ?_
    refine pz_add (by decide +kernel) hz23 kz_2 (by omega) (by omega) (fun z24 hz24 => ?_)
    clear hz23
    refine pz_iald (by decide +kernel) (md_a148 hc) (mlen_148 hIq1) hz24 (by omega) (by omega) (fun v25 ev25 => ?_)
    have rv25 : 0 ≤ v25.toInt ∧ v25.toInt ≤ 99 := MT_much (mt_148 hIq1 ev25 (by omega)) (by omega)
    rw [show A3 148 = A 148 from (hFq1 148 (by decide) (by decide))] at ev25
    clear hz24
    refine pe_iret (by decide +kernel) rfl rfl ⟨rfl, rfl, ?_⟩
    show pmE pg X pg_tyl pg_cl (d + 8) 276 62 [.ref 147, .int x1, .int x2, .int x3, .int x4, .int z9, .int v14, .int v19, pm_dead, pm_dead, pm_dead] [.int v25, .int rq20] (md wc f2 A3) _
    refine pz_icmp_ge (off := 16) (t := 78) (by decide +kernel) (by decide) rfl rfl rfl (fun h26 => ?_) (fun h26 => ?_)
    · skip
      refine pe_aload_n (j := 0) (by decide +kernel) rfl ?_
      refine pe_iload (j := 5) (by decide +kernel) rfl ?_
      refine pe_iload (j := 4) (by decide +kernel) rfl ?_
      refine pe_iconstv (n := 2) (v := 2) (by decide +kernel) (by decide +kernel) ?_
      refine pi_V (j := 172) (mj := 224) (by decide +kernel) (cll_V (args := [.int 2, .int x4, .int z9]) (n := 3) (by decide +kernel) rfl rfl (md_o hc) (by decide +kernel) (Nat.le_of_ble_eq_true rfl) (Nat.le_of_ble_eq_true rfl)) ?_
      show pmE pg X pg_tyl pg_cl (d + 7) 224 0 [.ref 147, .int z9, .int x4, .int 2] [] (md wc f2 A3) _
      refine pe_aload_n (j := 0) (by decide +kernel) rfl ?_
      refine pe_get (j := 7) (ci := 12) (n := 0) (by decide +kernel) (by decide +kernel) (md_o hc) rfl ?_
      refine pe_iload_n (j := 1) (by decide +kernel) rfl ?_
      refine pe_bipushv (n := 102) (v := 102) (by decide +kernel) (by decide +kernel) ?_
      refine pz_add (by decide +kernel) hz9 kz_102 (by omega) (by omega) (fun z27 hz27 => ?_)
      refine pe_iconstv (n := 4) (v := 4) (by decide +kernel) (by decide +kernel) ?_
      refine pe_iload_n (j := 2) (by decide +kernel) rfl ?_
      refine pz_mul (by decide +kernel) kz_4 rfl (by omega) (by omega) (fun z28 hz28 => ?_)
      refine pz_add (by decide +kernel) hz27 hz28 (by omega) (by omega) (fun z29 hz29 => ?_)
      clear hz27 hz28
      refine pe_iload_n (j := 3) (by decide +kernel) rfl ?_
      refine pz_add (by decide +kernel) hz29 kz_2 (by omega) (by omega) (fun z30 hz30 => ?_)
      clear hz29
      refine pz_iald (by decide +kernel) (md_a148 hc) (mlen_148 hIq1) hz30 (by omega) (by omega) (fun v31 ev31 => ?_)
      rw [show A3 148 = A 148 from (hFq1 148 (by decide) (by decide))] at ev31
      rw [ev31.trans ev25.symm]
      clear ev31 v31
      clear hz30
      refine pe_iret (by decide +kernel) rfl rfl ⟨rfl, rfl, ?_⟩
      show pmE pg X pg_tyl pg_cl (d + 8) 276 87 [.ref 147, .int x1, .int x2, .int x3, .int x4, .int z9, .int v14, .int v19, pm_dead, pm_dead, pm_dead] [.int v25] (md wc f2 A3) _
      refine pe_istore (j := 8) (ls' := [.ref 147, .int x1, .int x2, .int x3, .int x4, .int z9, .int v14, .int v19, .int v25, pm_dead, pm_dead]) (by decide +kernel) (Nat.le_of_ble_eq_true rfl) rfl ?_
      refine pe_aload_n (j := 0) (by decide +kernel) rfl ?_
      refine pz_callV (j := 324) (mj := 277) (by decide +kernel) (cll_V (args := []) (n := 0) (by decide +kernel) rfl rfl (md_o hc) (by decide +kernel) (Nat.le_of_ble_eq_true rfl) (Nat.le_of_ble_eq_true rfl)) (NM_277 hc hIq1) (fun q32a q32b q32c q32d hqq32 => ?_)
      obtain ⟨A33, eq32, hIq32, hFq32, kq32⟩ := hqq32
      cases eq32
      refine ⟨rfl, rfl, ?_⟩
      obtain ⟨hq34, hq35, hq36, hq37, kq32⟩ := kq32
      show pmE pg X pg_tyl pg_cl (d + 8) 276 93 [.ref 147, .int x1, .int x2, .int x3, .int x4, .int z9, .int v14, .int v19, .int v25, pm_dead, pm_dead] [] (md wc f2 A33) _
      refine pe_iconstv (n := 0) (v := 0) (by decide +kernel) (by decide +kernel) ?_
      refine pe_istore (j := 9) (ls' := [.ref 147, .int x1, .int x2, .int x3, .int x4, .int z9, .int v14, .int v19, .int v25, .int 0, pm_dead]) (by decide +kernel) (Nat.le_of_ble_eq_true rfl) rfl ?_
      refine NL_276_96 hc (by omega) (by omega) (by omega) (by omega) (by omega) (by omega) (by omega) (by omega) (by rw [show A33 152 = A3 152 from (hFq32 152 (by decide) (by decide) (by decide) (by decide))]; exact DF_n0 hp5 (by decide)) (fun A38 y39 u40 hIy41 hFA38 gy39 hp42 => ?_) 10 A33 0 (pm_dead) hIq32 (fun k _ => rfl) (by decide +kernel) trivial (by decide +kernel)
      refine pe_aload_n (j := 0) (by decide +kernel) rfl ?_
      refine pe_get (j := 56) (ci := 12) (n := 28) (by decide +kernel) (by decide +kernel) (md_o hc) rfl ?_
      refine pe_iload (j := 7) (by decide +kernel) rfl ?_
      refine pe_iload (j := 8) (by decide +kernel) rfl ?_
      refine mz_st163 (by decide +kernel) hc hIy41 rfl (by omega) (by omega) (fun A43 eA43 hIA43 => ?_)
      have hq44 : (∀ j : Int, (0) ≤ j → j < (10) → (-1000000) ≤ ((A43 163).getD j.toNat 0).toInt ∧ ((A43 163).getD j.toNat 0).toInt ≤ 1000000) := by
        intro j h1 h2
        first
        | (exfalso; omega)
        | (by_cases e : (v19.toInt).toNat = j.toNat
           · rw [upa_at eA43, ← e, gz_eq (by rw [(mlen_163 hIy41)]; omega)]; omega
           · rw [upa_at eA43, gz_ne e, show A38 163 = A33 163 from (hFA38 163 (by decide))]; have hh := hq37 j (by omega) (by omega); omega)
      refine pe_aload_n (j := 0) (by decide +kernel) rfl ?_
      refine pe_get (j := 56) (ci := 12) (n := 28) (by decide +kernel) (by decide +kernel) (md_o hc) rfl ?_
      refine pe_iload (j := 6) (by decide +kernel) rfl ?_
      refine pe_iload (j := 8) (by decide +kernel) rfl ?_
      refine pz_neg (by decide +kernel) rfl (by omega) (by omega) (fun z45 hz45 => ?_)
      refine mz_st163 (by decide +kernel) hc hIA43 rfl (by omega) (by omega) (fun A46 eA46 hIA46 => ?_)
      refine pe_aload_n (j := 0) (by decide +kernel) rfl ?_
      have hq47 : (∀ j : Int, (0) ≤ j → j < (10) → (-1000000) ≤ ((A46 163).getD j.toNat 0).toInt ∧ ((A46 163).getD j.toNat 0).toInt ≤ 1000000) := by
        intro j h1 h2
        first
        | (exfalso; omega)
        | (by_cases e : (v14.toInt).toNat = j.toNat
           · rw [upa_at eA46, ← e, gz_eq (by rw [(mlen_163 hIA43)]; omega)]; omega
           · rw [upa_at eA46, gz_ne e]; have hh := hq44 j (by omega) (by omega); omega)
      refine pz_callV (j := 327) (mj := 278) (by decide +kernel) (cll_V (args := []) (n := 0) (by decide +kernel) rfl rfl (md_o hc) (by decide +kernel) (Nat.le_of_ble_eq_true rfl) (Nat.le_of_ble_eq_true rfl)) (NM_278 hc hIA46 hq47) (fun q48a q48b q48c q48d hqq48 => ?_)
      obtain ⟨A49, rq48, eq48, hIq48, hFq48, kq48⟩ := hqq48
      cases eq48
      refine ⟨rfl, rfl, ?_⟩
      obtain ⟨kfq48, kq48⟩ := kq48
      obtain ⟨hq50, kq48⟩ := kq48
      show pmE pg X pg_tyl pg_cl (d + 8) 276 181 [.ref 147, .int x1, .int x2, .int x3, .int x4, .int z9, .int v14, .int v19, .int v25, .int y39, u40] [.int rq48] (md wc f2 A49) _
      refine pe_istore (j := 9) (ls' := [.ref 147, .int x1, .int x2, .int x3, .int x4, .int z9, .int v14, .int v19, .int v25, .int rq48, u40]) (by decide +kernel) (Nat.le_of_ble_eq_true rfl) rfl ?_
      refine pe_iload (j := 9) (by decide +kernel) rfl ?_
      refine pz_if_eq (off := 8) (t := 193) (by decide +kernel) (by decide) rfl rfl (fun h51 => ?_) (fun h51 => ?_)
      · skip
        refine pe_iload (j := 8) (by decide +kernel) rfl ?_
        refine pe_aload_n (j := 0) (by decide +kernel) rfl ?_
        refine pe_get (j := 56) (ci := 12) (n := 28) (by decide +kernel) (by decide +kernel) (md_o hc) rfl ?_
        refine pe_iload (j := 7) (by decide +kernel) rfl ?_
        refine pz_iald (by decide +kernel) (md_a163 hc) (mlen_163 hIq48) rfl (by omega) (by omega) (fun v52 ev52 => ?_)
        have rq53 := hq50 v19.toInt (by omega) (by omega)
        rw [← ev52] at rq53
        refine pz_sub (by decide +kernel) rfl rfl (by omega) (by omega) (fun z54 hz54 => ?_)
        exact pe_iret (by decide +kernel) rfl rfl ⟨f2, A49, z54, rfl, hIq48, (fun k n14 n15 n16 => (hGq1 k n14 n15 n16)), (fun k n152 n153 n160 n161 n162 n163 n164 => ((hFq48 k n162 n163 n164)).trans ((upa_fr eA46 n163).trans ((upa_fr eA43 n163).trans (((hFA38 k n161)).trans (((hFq32 k n160 n161 n162 n163)).trans ((hFq1 k n152 n153))))))), ⟨(by omega), trivial⟩⟩
      · skip
        refine pe_iload (j := 8) (by decide +kernel) rfl ?_
        refine pe_goto (off := 13) (t := 203) (by decide +kernel) (by decide) rfl ?_
        exact pe_iret (by decide +kernel) rfl rfl ⟨f2, A49, v25, rfl, hIq48, (fun k n14 n15 n16 => (hGq1 k n14 n15 n16)), (fun k n152 n153 n160 n161 n162 n163 n164 => ((hFq48 k n162 n163 n164)).trans ((upa_fr eA46 n163).trans ((upa_fr eA43 n163).trans (((hFA38 k n161)).trans (((hFq32 k n160 n161 n162 n163)).trans ((hFq1 k n152 n153))))))), ⟨(by omega), trivial⟩⟩
    · skip
      refine pe_aload_n (j := 0) (by decide +kernel) rfl ?_
      refine pe_iload (j := 5) (by decide +kernel) rfl ?_
      refine pe_iload (j := 6) (by decide +kernel) rfl ?_
      refine pe_iload (j := 7) (by decide +kernel) rfl ?_
      refine pz_callV (j := 199) (mj := 231) (by decide +kernel) (cll_V (args := [.int v19, .int v14, .int z9]) (n := 3) (by decide +kernel) rfl rfl (md_o hc) (by decide +kernel) (Nat.le_of_ble_eq_true rfl) (Nat.le_of_ble_eq_true rfl)) (NM_231 hc hIq1 (by omega) (by omega) (by omega) (DF_n0 hp5 (by decide))) (fun q55a q55b q55c q55d hqq55 => ?_)
      obtain ⟨rq55, eq55, hX0q55, kq55⟩ := hqq55
      cases eq55
      refine ⟨rfl, rfl, ?_⟩
      show pmE pg X pg_tyl pg_cl (d + 8) 276 75 [.ref 147, .int x1, .int x2, .int x3, .int x4, .int z9, .int v14, .int v19, pm_dead, pm_dead, pm_dead] [.int rq55] (md wc f2 A3) _
      refine pe_goto (off := 12) (t := 87) (by decide +kernel) (by decide) rfl ?_
      refine pe_istore (j := 8) (ls' := [.ref 147, .int x1, .int x2, .int x3, .int x4, .int z9, .int v14, .int v19, .int rq55, pm_dead, pm_dead]) (by decide +kernel) (Nat.le_of_ble_eq_true rfl) rfl ?_
      refine pe_aload_n (j := 0) (by decide +kernel) rfl ?_
      refine pz_callV (j := 324) (mj := 277) (by decide +kernel) (cll_V (args := []) (n := 0) (by decide +kernel) rfl rfl (md_o hc) (by decide +kernel) (Nat.le_of_ble_eq_true rfl) (Nat.le_of_ble_eq_true rfl)) (NM_277 hc hIq1) (fun q56a q56b q56c q56d hqq56 => ?_)
      obtain ⟨A57, eq56, hIq56, hFq56, kq56⟩ := hqq56
      cases eq56
      refine ⟨rfl, rfl, ?_⟩
      obtain ⟨hq58, hq59, hq60, hq61, kq56⟩ := kq56
      show pmE pg X pg_tyl pg_cl (d + 8) 276 93 [.ref 147, .int x1, .int x2, .int x3, .int x4, .int z9, .int v14, .int v19, .int rq55, pm_dead, pm_dead] [] (md wc f2 A57) _
      refine pe_iconstv (n := 0) (v := 0) (by decide +kernel) (by decide +kernel) ?_
      refine pe_istore (j := 9) (ls' := [.ref 147, .int x1, .int x2, .int x3, .int x4, .int z9, .int v14, .int v19, .int rq55, .int 0, pm_dead]) (by decide +kernel) (Nat.le_of_ble_eq_true rfl) rfl ?_
      refine NL_276_96 hc (by omega) (by omega) (by omega) (by omega) (by omega) (by omega) (by omega) (by omega) (by rw [show A57 152 = A3 152 from (hFq56 152 (by decide) (by decide) (by decide) (by decide))]; exact DF_n0 hp5 (by decide)) (fun A62 y63 u64 hIy65 hFA62 gy63 hp66 => ?_) 10 A57 0 (pm_dead) hIq56 (fun k _ => rfl) (by decide +kernel) trivial (by decide +kernel)
      refine pe_aload_n (j := 0) (by decide +kernel) rfl ?_
      refine pe_get (j := 56) (ci := 12) (n := 28) (by decide +kernel) (by decide +kernel) (md_o hc) rfl ?_
      refine pe_iload (j := 7) (by decide +kernel) rfl ?_
      refine pe_iload (j := 8) (by decide +kernel) rfl ?_
      refine mz_st163 (by decide +kernel) hc hIy65 rfl (by omega) (by omega) (fun A67 eA67 hIA67 => ?_)
      have hq68 : (∀ j : Int, (0) ≤ j → j < (10) → (-1000000) ≤ ((A67 163).getD j.toNat 0).toInt ∧ ((A67 163).getD j.toNat 0).toInt ≤ 1000000) := by
        intro j h1 h2
        first
        | (exfalso; omega)
        | (by_cases e : (v19.toInt).toNat = j.toNat
           · rw [upa_at eA67, ← e, gz_eq (by rw [(mlen_163 hIy65)]; omega)]; omega
           · rw [upa_at eA67, gz_ne e, show A62 163 = A57 163 from (hFA62 163 (by decide))]; have hh := hq61 j (by omega) (by omega); omega)
      refine pe_aload_n (j := 0) (by decide +kernel) rfl ?_
      refine pe_get (j := 56) (ci := 12) (n := 28) (by decide +kernel) (by decide +kernel) (md_o hc) rfl ?_
      refine pe_iload (j := 6) (by decide +kernel) rfl ?_
      refine pe_iload (j := 8) (by decide +kernel) rfl ?_
      refine pz_neg (by decide +kernel) rfl (by omega) (by omega) (fun z69 hz69 => ?_)
      refine mz_st163 (by decide +kernel) hc hIA67 rfl (by omega) (by omega) (fun A70 eA70 hIA70 => ?_)
      refine pe_aload_n (j := 0) (by decide +kernel) rfl ?_
      have hq71 : (∀ j : Int, (0) ≤ j → j < (10) → (-1000000) ≤ ((A70 163).getD j.toNat 0).toInt ∧ ((A70 163).getD j.toNat 0).toInt ≤ 1000000) := by
        intro j h1 h2
        first
        | (exfalso; omega)
        | (by_cases e : (v14.toInt).toNat = j.toNat
           · rw [upa_at eA70, ← e, gz_eq (by rw [(mlen_163 hIA67)]; omega)]; omega
           · rw [upa_at eA70, gz_ne e]; have hh := hq68 j (by omega) (by omega); omega)
      refine pz_callV (j := 327) (mj := 278) (by decide +kernel) (cll_V (args := []) (n := 0) (by decide +kernel) rfl rfl (md_o hc) (by decide +kernel) (Nat.le_of_ble_eq_true rfl) (Nat.le_of_ble_eq_true rfl)) (NM_278 hc hIA70 hq71) (fun q72a q72b q72c q72d hqq72 => ?_)
      obtain ⟨A73, rq72, eq72, hIq72, hFq72, kq72⟩ := hqq72
      cases eq72
      refine ⟨rfl, rfl, ?_⟩
      obtain ⟨kfq72, kq72⟩ := kq72
      obtain ⟨hq74, kq72⟩ := kq72
      show pmE pg X pg_tyl pg_cl (d + 8) 276 181 [.ref 147, .int x1, .int x2, .int x3, .int x4, .int z9, .int v14, .int v19, .int rq55, .int y63, u64] [.int rq72] (md wc f2 A73) _
      refine pe_istore (j := 9) (ls' := [.ref 147, .int x1, .int x2, .int x3, .int x4, .int z9, .int v14, .int v19, .int rq55, .int rq72, u64]) (by decide +kernel) (Nat.le_of_ble_eq_true rfl) rfl ?_
      refine pe_iload (j := 9) (by decide +kernel) rfl ?_
      refine pz_if_eq (off := 8) (t := 193) (by decide +kernel) (by decide) rfl rfl (fun h75 => ?_) (fun h75 => ?_)
      · skip
        refine pe_iload (j := 8) (by decide +kernel) rfl ?_
        refine pe_aload_n (j := 0) (by decide +kernel) rfl ?_
        refine pe_get (j := 56) (ci := 12) (n := 28) (by decide +kernel) (by decide +kernel) (md_o hc) rfl ?_
        refine pe_iload (j := 7) (by decide +kernel) rfl ?_
        refine pz_iald (by decide +kernel) (md_a163 hc) (mlen_163 hIq72) rfl (by omega) (by omega) (fun v76 ev76 => ?_)
        have rq77 := hq74 v19.toInt (by omega) (by omega)
        rw [← ev76] at rq77
        refine pz_sub (by decide +kernel) rfl rfl (by omega) (by omega) (fun z78 hz78 => ?_)
        exact pe_iret (by decide +kernel) rfl rfl ⟨f2, A73, z78, rfl, hIq72, (fun k n14 n15 n16 => (hGq1 k n14 n15 n16)), (fun k n152 n153 n160 n161 n162 n163 n164 => ((hFq72 k n162 n163 n164)).trans ((upa_fr eA70 n163).trans ((upa_fr eA67 n163).trans (((hFA62 k n161)).trans (((hFq56 k n160 n161 n162 n163)).trans ((hFq1 k n152 n153))))))), ⟨(by omega), trivial⟩⟩
      · skip
        refine pe_iload (j := 8) (by decide +kernel) rfl ?_
        refine pe_goto (off := 13) (t := 203) (by decide +kernel) (by decide) rfl ?_
        exact pe_iret (by decide +kernel) rfl rfl ⟨f2, A73, rq55, rfl, hIq72, (fun k n14 n15 n16 => (hGq1 k n14 n15 n16)), (fun k n152 n153 n160 n161 n162 n163 n164 => ((hFq72 k n162 n163 n164)).trans ((upa_fr eA70 n163).trans ((upa_fr eA67 n163).trans (((hFA62 k n161)).trans (((hFq56 k n160 n161 n162 n163)).trans ((hFq1 k n152 n153))))))), ⟨(by omega), trivial⟩⟩
