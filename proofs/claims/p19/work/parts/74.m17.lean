section
set_option maxRecDepth 100000 in
set_option maxHeartbeats 8000000 in
theorem ML_302_66 {X : pm_X} {d : Nat} {wc : pm_W} {Q : pm_R → Prop} {f0 : Nat → Int32} {A0 : Nat → List Int32} {x1 x2 x3 x4 x5 x6 x7 x9 x10 : Int32} (hc : wc.length = 147) (gx1 : (0 ≤ x1.toInt ∧ x1.toInt ≤ 1)) (gx2 : ((-1) ≤ x2.toInt ∧ x2.toInt ≤ 2)) (gx3 : (0 ≤ x3.toInt ∧ x3.toInt ≤ 30)) (gx5 : (1 ≤ x5.toInt ∧ x5.toInt ≤ 24)) (gx6 : (0 ≤ x6.toInt ∧ x6.toInt ≤ 3)) (gx7 : (610 ≤ x7.toInt ∧ x7.toInt ≤ 742 ∧ (x7.toInt - 610) % 132 = 0)) (gx9 : ((-1) ≤ x9.toInt)) (gx10 : (1 ≤ x10.toInt ∧ x10.toInt ≤ 24)) (k_118_0 : ∀ (f' : Nat → Int32) (A' : Nat → List Int32) (y8 : Int32) (y11 : Int32), MI f' A' → (∀ k : Nat, k ≠ 33 → f' k = f0 k) → (∀ k : Nat, k ≠ 152 → k ≠ 153 → A' k = A0 k) → (0 ≤ y11.toInt ∧ y11.toInt ≤ 9) → pmE pg X pg_tyl pg_cl (d + 7) 302 118 [.ref 147, .int x1, .int x2, .int x3, .int x4, .int x5, .int x6, .int x7, .int y8, .int x9, .int x10, .int y11] [] (md wc f' A') Q) : ∀ (m : Nat) (f : Nat → Int32) (A : Nat → List Int32) (x8 : Int32) (x11 : Int32), MI f A → (∀ k : Nat, k ≠ 33 → f k = f0 k) → (∀ k : Nat, k ≠ 152 → k ≠ 153 → A k = A0 k) → (0 ≤ x11.toInt ∧ x11.toInt ≤ 9) → 9 - x11.toInt < (m : Int) → pmE pg X pg_tyl pg_cl (d + 7) 302 66 [.ref 147, .int x1, .int x2, .int x3, .int x4, .int x5, .int x6, .int x7, .int x8, .int x9, .int x10, .int x11] [] (md wc f A) Q := by
  intro m
  induction m with
  | zero =>
    intro f A x8 x11 hI hG hF gx11 hm
    exfalso
    have l0 := zi_lo x11
    have u0 := zi_hi x11
    omega
  | succ m ih =>
    intro f A x8 x11 hI hG hF gx11 hm
    refine pe_iload (j := 11) (by decide +kernel) rfl ?_
    refine pe_aload_n (j := 0) (by decide +kernel) rfl ?_
    refine pe_get (j := 7) (ci := 12) (n := 0) (by decide +kernel) (by decide +kernel) (md_o hc) rfl ?_
    refine pe_iload (j := 7) (by decide +kernel) rfl ?_
    refine mz_ld148 (by decide +kernel) hc hI rfl (by omega) (by omega) (fun v1 ev1 pv1 => ?_)
    rw [show A 148 = A0 148 from (hF 148 (by decide) (by decide))] at ev1
    have rv1 : 0 ≤ v1.toInt ∧ v1.toInt ≤ 9 := MT_people pv1 (by omega)
    clear pv1
    refine pz_icmp_ge (off := 43) (t := 118) (by decide +kernel) (by decide) rfl rfl rfl (fun h2 => ?_) (fun h2 => ?_)
    · skip
      exact k_118_0 f A x8 x11 hI (fun k n33 => (hG k n33)) (fun k n152 n153 => (hF k n152 n153)) (by omega)
    · skip
      refine pe_aload_n (j := 0) (by decide +kernel) rfl ?_
      refine pe_bipushv (n := 100) (v := 100) (by decide +kernel) (by decide +kernel) ?_
      refine pz_callV (j := 368) (mj := 303) (by decide +kernel) (cll_V (args := [.int 100]) (n := 1) (by decide +kernel) rfl rfl (md_o hc) (by decide +kernel) (Nat.le_of_ble_eq_true rfl) (Nat.le_of_ble_eq_true rfl)) (MM_303 hc hI (by decide +kernel)) (fun q3a q3b q3c q3d hqq3 => ?_)
      obtain ⟨f4, rq3, eq3, hIq3, hGq3, kq3⟩ := hqq3
      cases eq3
      refine ⟨rfl, rfl, ?_⟩
      show pmE pg X pg_tyl pg_cl (d + 7) 302 84 [.ref 147, .int x1, .int x2, .int x3, .int x4, .int x5, .int x6, .int x7, .int x8, .int x9, .int x10, .int x11] [.int rq3] (md wc f4 A) _
      refine pe_aload_n (j := 0) (by decide +kernel) rfl ?_
      refine pe_get (j := 7) (ci := 12) (n := 0) (by decide +kernel) (by decide +kernel) (md_o hc) rfl ?_
      refine pe_iload (j := 7) (by decide +kernel) rfl ?_
      refine pe_bipushv (n := 93) (v := 93) (by decide +kernel) (by decide +kernel) ?_
      refine pz_add (by decide +kernel) rfl kz_93 (by omega) (by omega) (fun z5 hz5 => ?_)
      refine pe_iload (j := 11) (by decide +kernel) rfl ?_
      refine pz_add (by decide +kernel) hz5 rfl (by omega) (by omega) (fun z6 hz6 => ?_)
      clear hz5
      refine mz_ld148 (by decide +kernel) hc hIq3 hz6 (by omega) (by omega) (fun v7 ev7 pv7 => ?_)
      rw [show A 148 = A0 148 from (hF 148 (by decide) (by decide))] at ev7
      clear pv7
      clear hz6
      have lw9 := zi_lo v7
      have uw9 := zi_hi v7
      refine pz_icmp_lt (off := 6) (t := 103) (by decide +kernel) (by decide) rfl rfl rfl (fun h8 => ?_) (fun h8 => ?_)
      · skip
        refine pe_aload_n (j := 0) (by decide +kernel) rfl ?_
        refine pe_iload (j := 11) (by decide +kernel) rfl ?_
        refine pz_callV (j := 205) (mj := 238) (by decide +kernel) (cll_V (args := [.int x11]) (n := 1) (by decide +kernel) rfl rfl (md_o hc) (by decide +kernel) (Nat.le_of_ble_eq_true rfl) (Nat.le_of_ble_eq_true rfl)) (MM_238 hc hIq3 (by omega)) (fun q10a q10b q10c q10d hqq10 => ?_)
        obtain ⟨A11, eq10, hIq10, hFq10, kq10⟩ := hqq10
        cases eq10
        refine ⟨rfl, rfl, ?_⟩
        show pmE pg X pg_tyl pg_cl (d + 7) 302 109 [.ref 147, .int x1, .int x2, .int x3, .int x4, .int x5, .int x6, .int x7, .int x8, .int x9, .int x10, .int x11] [] (md wc f4 A11) _
        refine pw_iinc (j := 8) (n := 1) (by decide +kernel) rfl (fun z12 => ?_)
        show pmE pg X pg_tyl pg_cl (d + 7) 302 112 [.ref 147, .int x1, .int x2, .int x3, .int x4, .int x5, .int x6, .int x7, .int z12, .int x9, .int x10, .int x11] [] (md wc f4 A11) _
        refine pz_iinc (j := 11) (n := 1) (by decide +kernel) rfl rfl (by decide +kernel) (by omega) (by omega) (fun z13 hz13 => ?_)
        show pmE pg X pg_tyl pg_cl (d + 7) 302 115 [.ref 147, .int x1, .int x2, .int x3, .int x4, .int x5, .int x6, .int x7, .int z12, .int x9, .int x10, .int z13] [] (md wc f4 A11) _
        refine pe_goto (off := (-49)) (t := 66) (by decide +kernel) (by decide) rfl ?_
        exact ih f4 A11 z12 z13 hIq10 (fun k n33 => ((hGq3 k n33)).trans ((hG k n33))) (fun k n152 n153 => ((hFq10 k n152 n153)).trans ((hF k n152 n153))) (by omega) (by omega)
      · skip
        refine pe_goto (off := 12) (t := 112) (by decide +kernel) (by decide) rfl ?_
        refine pz_iinc (j := 11) (n := 1) (by decide +kernel) rfl rfl (by decide +kernel) (by omega) (by omega) (fun z14 hz14 => ?_)
        show pmE pg X pg_tyl pg_cl (d + 7) 302 115 [.ref 147, .int x1, .int x2, .int x3, .int x4, .int x5, .int x6, .int x7, .int x8, .int x9, .int x10, .int z14] [] (md wc f4 A) _
        refine pe_goto (off := (-49)) (t := 66) (by decide +kernel) (by decide) rfl ?_
        exact ih f4 A x8 z14 hIq3 (fun k n33 => ((hGq3 k n33)).trans ((hG k n33))) (fun k n152 n153 => (hF k n152 n153)) (by omega) (by omega)
set_option maxRecDepth 100000 in
set_option maxHeartbeats 8000000 in
theorem ML_302_56 {X : pm_X} {d : Nat} {wc : pm_W} {Q : pm_R → Prop} {f0 : Nat → Int32} {A0 : Nat → List Int32} {x1 x2 x3 x4 x5 x6 x7 : Int32} (hc : wc.length = 147) (gx1 : (0 ≤ x1.toInt ∧ x1.toInt ≤ 1)) (gx2 : ((-1) ≤ x2.toInt ∧ x2.toInt ≤ 2)) (gx3 : (0 ≤ x3.toInt ∧ x3.toInt ≤ 30)) (gx5 : (0 ≤ x5.toInt ∧ x5.toInt ≤ 24)) (gx6 : (0 ≤ x6.toInt ∧ x6.toInt ≤ 3)) (gx7 : (610 ≤ x7.toInt ∧ x7.toInt ≤ 742 ∧ (x7.toInt - 610) % 132 = 0)) (k_146_0 : ∀ (f' : Nat → Int32) (A' : Nat → List Int32) (y8 : Int32) (y9 : Int32) (y10 : Int32) (v11 : Value), MI f' A' → (∀ k : Nat, k ≠ 15 → k ≠ 33 → f' k = f0 k) → (∀ k : Nat, k ≠ 152 → k ≠ 153 → A' k = A0 k) → ((-1) ≤ y9.toInt) → (1 ≤ y10.toInt ∧ y10.toInt ≤ 25) → pmE pg X pg_tyl pg_cl (d + 7) 302 146 [.ref 147, .int x1, .int x2, .int x3, .int x4, .int x5, .int x6, .int x7, .int y8, .int y9, .int y10, v11] [] (md wc f' A') Q) : ∀ (m : Nat) (f : Nat → Int32) (A : Nat → List Int32) (x8 : Int32) (x9 : Int32) (x10 : Int32) (u11 : Value), MI f A → (∀ k : Nat, k ≠ 15 → k ≠ 33 → f k = f0 k) → (∀ k : Nat, k ≠ 152 → k ≠ 153 → A k = A0 k) → ((-1) ≤ x9.toInt) → (1 ≤ x10.toInt ∧ x10.toInt ≤ 25) → 25 - x10.toInt < (m : Int) → pmE pg X pg_tyl pg_cl (d + 7) 302 56 [.ref 147, .int x1, .int x2, .int x3, .int x4, .int x5, .int x6, .int x7, .int x8, .int x9, .int x10, u11] [] (md wc f A) Q := by
  intro m
  induction m with
  | zero =>
    intro f A x8 x9 x10 u11 hI hG hF gx9 gx10 hm
    exfalso
    have l0 := zi_lo x10
    have u0 := zi_hi x10
    omega
  | succ m ih =>
    intro f A x8 x9 x10 u11 hI hG hF gx9 gx10 hm
    refine pe_iload (j := 10) (by decide +kernel) rfl ?_
    refine pe_iload (j := 5) (by decide +kernel) rfl ?_
    refine pz_icmp_gt (off := 86) (t := 146) (by decide +kernel) (by decide) rfl rfl rfl (fun h1 => ?_) (fun h1 => ?_)
    · skip
      exact k_146_0 f A x8 x9 x10 (u11) hI (fun k n15 n33 => (hG k n15 n33)) (fun k n152 n153 => (hF k n152 n153)) (by omega) (by omega)
    · skip
      refine pe_iconstv (n := 0) (v := 0) (by decide +kernel) (by decide +kernel) ?_
      refine pe_istore (j := 11) (ls' := [.ref 147, .int x1, .int x2, .int x3, .int x4, .int x5, .int x6, .int x7, .int x8, .int x9, .int x10, .int 0]) (by decide +kernel) (Nat.le_of_ble_eq_true rfl) rfl ?_
      refine ML_302_66 hc (by omega) (by omega) (by omega) (by omega) (by omega) (by omega) (by omega) (by omega) (fun f2 A3 y5 y6 hIy4 hGhIy4 hFhIy4 gy6 => ?_) 10 f A x8 0 hI (fun k _ => rfl) (fun k _ _ => rfl) (by decide +kernel) (by decide +kernel)
      refine pe_aload_n (j := 0) (by decide +kernel) rfl ?_
      refine pz_callV (j := 208) (mj := 240) (by decide +kernel) (cll_V (args := []) (n := 0) (by decide +kernel) rfl rfl (md_o hc) (by decide +kernel) (Nat.le_of_ble_eq_true rfl) (Nat.le_of_ble_eq_true rfl)) (MM_240 hc hIy4) (fun q7a q7b q7c q7d hqq7 => ?_)
      obtain ⟨f8, A9, eq7, hIq7, hGq7, hFq7, kq7⟩ := hqq7
      cases eq7
      refine ⟨rfl, rfl, ?_⟩
      show pmE pg X pg_tyl pg_cl (d + 7) 302 122 [.ref 147, .int x1, .int x2, .int x3, .int x4, .int x5, .int x6, .int x7, .int y5, .int x9, .int x10, .int y6] [] (md wc f8 A9) _
      refine pe_iload (j := 9) (by decide +kernel) rfl ?_
      have lw11 := zi_lo x9
      have uw11 := zi_hi x9
      refine pz_if_ge (off := 16) (t := 140) (by decide +kernel) (by decide) rfl rfl (fun h10 => ?_) (fun h10 => ?_)
      · skip
        refine pz_iinc (j := 10) (n := 1) (by decide +kernel) rfl rfl (by decide +kernel) (by omega) (by omega) (fun z12 hz12 => ?_)
        show pmE pg X pg_tyl pg_cl (d + 7) 302 143 [.ref 147, .int x1, .int x2, .int x3, .int x4, .int x5, .int x6, .int x7, .int y5, .int x9, .int z12, .int y6] [] (md wc f8 A9) _
        refine pe_goto (off := (-87)) (t := 56) (by decide +kernel) (by decide) rfl ?_
        exact ih f8 A9 y5 x9 z12 (.int y6) hIq7 (fun k n15 n33 => ((hGq7 k n15)).trans (((hGhIy4 k n33)).trans ((hG k n15 n33)))) (fun k n152 n153 => ((hFq7 k n152 n153)).trans (((hFhIy4 k n152 n153)).trans ((hF k n152 n153)))) (by omega) (by omega) (by omega)
      · skip
        refine pe_aload_n (j := 0) (by decide +kernel) rfl ?_
        refine pe_iload (j := 7) (by decide +kernel) rfl ?_
        refine pz_callV (j := 223) (mj := 241) (by decide +kernel) (cll_V (args := [.int x7]) (n := 1) (by decide +kernel) rfl rfl (md_o hc) (by decide +kernel) (Nat.le_of_ble_eq_true rfl) (Nat.le_of_ble_eq_true rfl)) (MM_241 hc hIq7 (by omega)) (fun q13a q13b q13c q13d hqq13 => ?_)
        obtain ⟨rq13, eq13, kq13⟩ := hqq13
        cases eq13
        refine ⟨rfl, rfl, ?_⟩
        show pmE pg X pg_tyl pg_cl (d + 7) 302 133 [.ref 147, .int x1, .int x2, .int x3, .int x4, .int x5, .int x6, .int x7, .int y5, .int x9, .int x10, .int y6] [.int rq13] (md wc f8 A9) _
        refine pz_if_ne (off := 7) (t := 140) (by decide +kernel) (by decide) rfl rfl (fun h14 => ?_) (fun h14 => ?_)
        · skip
          refine pz_iinc (j := 10) (n := 1) (by decide +kernel) rfl rfl (by decide +kernel) (by omega) (by omega) (fun z15 hz15 => ?_)
          show pmE pg X pg_tyl pg_cl (d + 7) 302 143 [.ref 147, .int x1, .int x2, .int x3, .int x4, .int x5, .int x6, .int x7, .int y5, .int x9, .int z15, .int y6] [] (md wc f8 A9) _
          refine pe_goto (off := (-87)) (t := 56) (by decide +kernel) (by decide) rfl ?_
          exact ih f8 A9 y5 x9 z15 (.int y6) hIq7 (fun k n15 n33 => ((hGq7 k n15)).trans (((hGhIy4 k n33)).trans ((hG k n15 n33)))) (fun k n152 n153 => ((hFq7 k n152 n153)).trans (((hFhIy4 k n152 n153)).trans ((hF k n152 n153)))) (by omega) (by omega) (by omega)
        · skip
          refine pe_iload (j := 10) (by decide +kernel) rfl ?_
          refine pe_istore (j := 9) (ls' := [.ref 147, .int x1, .int x2, .int x3, .int x4, .int x5, .int x6, .int x7, .int y5, .int x10, .int x10, .int y6]) (by decide +kernel) (Nat.le_of_ble_eq_true rfl) rfl ?_
          refine pz_iinc (j := 10) (n := 1) (by decide +kernel) rfl rfl (by decide +kernel) (by omega) (by omega) (fun z16 hz16 => ?_)
          show pmE pg X pg_tyl pg_cl (d + 7) 302 143 [.ref 147, .int x1, .int x2, .int x3, .int x4, .int x5, .int x6, .int x7, .int y5, .int x10, .int z16, .int y6] [] (md wc f8 A9) _
          refine pe_goto (off := (-87)) (t := 56) (by decide +kernel) (by decide) rfl ?_
          exact ih f8 A9 y5 x10 z16 (.int y6) hIq7 (fun k n15 n33 => ((hGq7 k n15)).trans (((hGhIy4 k n33)).trans ((hG k n15 n33)))) (fun k n152 n153 => ((hFq7 k n152 n153)).trans (((hFhIy4 k n152 n153)).trans ((hF k n152 n153)))) (by omega) (by omega) (by omega)
set_option maxRecDepth 100000 in
set_option maxHeartbeats 8000000 in
theorem MM_302 {X : pm_X} {d : Nat} {wc : pm_W} {f : Nat → Int32} {A : Nat → List Int32} {x1 x2 x3 x4 x5 x6 : Int32} (hc : wc.length = 147) (hI : MI f A) : pmE pg X pg_tyl pg_cl (d + 7) 302 0 (pm_ent (pm_max pg 302) [.ref 147, .int x1, .int x2, .int x3, .int x4, .int x5, .int x6]) [] (md wc f A) (fun q => ∃ (f' : Nat → Int32) (A' : Nat → List Int32) (r : Int32), q = (some (.int r), md wc f' A', 0, 0) ∧ MI f' A' ∧ (∀ k : Nat, k ≠ 14 → k ≠ 15 → k ≠ 16 → k ≠ 33 → f' k = f k) ∧ (∀ k : Nat, k ≠ 152 → k ≠ 153 → A' k = A k) ∧ ((True ∧ True))) := by
  show pmE pg X pg_tyl pg_cl (d + 7) 302 0 [.ref 147, .int x1, .int x2, .int x3, .int x4, .int x5, .int x6, pm_dead, pm_dead, pm_dead, pm_dead, pm_dead] [] (md wc f A) _
  refine pe_aload_n (j := 0) (by decide +kernel) rfl ?_
  refine pe_iload_n (j := 1) (by decide +kernel) rfl ?_
  refine pe_iload_n (j := 2) (by decide +kernel) rfl ?_
  refine pe_iload_n (j := 3) (by decide +kernel) rfl ?_
  refine pz_callV (j := 232) (mj := 246) (by decide +kernel) (cll_V (args := [.int x3, .int x2, .int x1]) (n := 3) (by decide +kernel) rfl rfl (md_o hc) (by decide +kernel) (Nat.le_of_ble_eq_true rfl) (Nat.le_of_ble_eq_true rfl)) (MM_246 hc hI) (fun q1a q1b q1c q1d hqq1 => ?_)
  obtain ⟨f2, A3, rq1, eq1, hIq1, hGq1, hFq1, kq1⟩ := hqq1
  cases eq1
  refine ⟨rfl, rfl, ?_⟩
  rcases kq1 with kq1 | kq1
  · skip
    obtain ⟨erq1, kq1⟩ := kq1
    subst erq1
    show pmE pg X pg_tyl pg_cl (d + 7) 302 7 [.ref 147, .int x1, .int x2, .int x3, .int x4, .int x5, .int x6, pm_dead, pm_dead, pm_dead, pm_dead, pm_dead] [.int 0] (md wc f2 A3) _
    refine pz_if_eq (off := 24) (t := 31) (by decide +kernel) (by decide) rfl kz_0 (fun h4 => ?_) (fun h4 => by omega)
    refine pe_bipushv (n := (-2)) (v := (-2)) (by decide +kernel) (by decide +kernel) ?_
    exact pe_iret (by decide +kernel) rfl rfl ⟨f2, A3, (-2), rfl, hIq1, (fun k n14 n15 n16 n33 => (hGq1 k n14 n15 n16)), (fun k n152 n153 => (hFq1 k n152 n153)), ⟨trivial, trivial⟩⟩
  · skip
    obtain ⟨erq1, kq1⟩ := kq1
    subst erq1
    show pmE pg X pg_tyl pg_cl (d + 7) 302 7 [.ref 147, .int x1, .int x2, .int x3, .int x4, .int x5, .int x6, pm_dead, pm_dead, pm_dead, pm_dead, pm_dead] [.int 1] (md wc f2 A3) _
    refine pz_if_eq (off := 24) (t := 31) (by decide +kernel) (by decide) rfl kz_1 (fun h5 => by omega) (fun h5 => ?_)
    refine pe_iload (j := 5) (by decide +kernel) rfl ?_
    refine pe_iconstv (n := 0) (v := 0) (by decide +kernel) (by decide +kernel) ?_
    refine pe_bipushv (n := 24) (v := 24) (by decide +kernel) (by decide +kernel) ?_
    refine pi_S (j := 119) (mj := 199) (by decide +kernel) (by decide +kernel) rfl ?_
    show pmE pg X pg_tyl pg_cl (d + 6) 199 0 [.int x5, .int 0, .int 24] [] (md wc f2 A3) _
    refine pe_iload_n (j := 0) (by decide +kernel) rfl ?_
    refine pe_iload_n (j := 1) (by decide +kernel) rfl ?_
    have lw7 := zi_lo x5
    have uw7 := zi_hi x5
    refine pz_icmp_lt (off := 12) (t := 14) (by decide +kernel) (by decide) rfl rfl kz_0 (fun h6 => ?_) (fun h6 => ?_)
    · skip
      refine pe_iconstv (n := 0) (v := 0) (by decide +kernel) (by decide +kernel) ?_
      refine pe_iret (by decide +kernel) rfl rfl ⟨rfl, rfl, ?_⟩
      show pmE pg X pg_tyl pg_cl (d + 7) 302 18 [.ref 147, .int x1, .int x2, .int x3, .int x4, .int x5, .int x6, pm_dead, pm_dead, pm_dead, pm_dead, pm_dead] [.int 0] (md wc f2 A3) _
      refine pz_if_eq (off := 13) (t := 31) (by decide +kernel) (by decide) rfl kz_0 (fun h8 => ?_) (fun h8 => by omega)
      refine pe_bipushv (n := (-2)) (v := (-2)) (by decide +kernel) (by decide +kernel) ?_
      exact pe_iret (by decide +kernel) rfl rfl ⟨f2, A3, (-2), rfl, hIq1, (fun k n14 n15 n16 n33 => (hGq1 k n14 n15 n16)), (fun k n152 n153 => (hFq1 k n152 n153)), ⟨trivial, trivial⟩⟩
    · skip
      refine pe_iload_n (j := 0) (by decide +kernel) rfl ?_
      refine pe_iload_n (j := 2) (by decide +kernel) rfl ?_
      refine pz_icmp_gt (off := 7) (t := 14) (by decide +kernel) (by decide) rfl rfl kz_24 (fun h9 => ?_) (fun h9 => ?_)
      · skip
        refine pe_iconstv (n := 0) (v := 0) (by decide +kernel) (by decide +kernel) ?_
        refine pe_iret (by decide +kernel) rfl rfl ⟨rfl, rfl, ?_⟩
        show pmE pg X pg_tyl pg_cl (d + 7) 302 18 [.ref 147, .int x1, .int x2, .int x3, .int x4, .int x5, .int x6, pm_dead, pm_dead, pm_dead, pm_dead, pm_dead] [.int 0] (md wc f2 A3) _
        refine pz_if_eq (off := 13) (t := 31) (by decide +kernel) (by decide) rfl kz_0 (fun h10 => ?_) (fun h10 => by omega)
        refine pe_bipushv (n := (-2)) (v := (-2)) (by decide +kernel) (by decide +kernel) ?_
        exact pe_iret (by decide +kernel) rfl rfl ⟨f2, A3, (-2), rfl, hIq1, (fun k n14 n15 n16 n33 => (hGq1 k n14 n15 n16)), (fun k n152 n153 => (hFq1 k n152 n153)), ⟨trivial, trivial⟩⟩
      · skip
        refine pe_iconstv (n := 1) (v := 1) (by decide +kernel) (by decide +kernel) ?_
        refine pe_goto (off := 4) (t := 15) (by decide +kernel) (by decide) rfl ?_
        refine pe_iret (by decide +kernel) rfl rfl ⟨rfl, rfl, ?_⟩
        show pmE pg X pg_tyl pg_cl (d + 7) 302 18 [.ref 147, .int x1, .int x2, .int x3, .int x4, .int x5, .int x6, pm_dead, pm_dead, pm_dead, pm_dead, pm_dead] [.int 1] (md wc f2 A3) _
        refine pz_if_eq (off := 13) (t := 31) (by decide +kernel) (by decide) rfl kz_1 (fun h11 => by omega) (fun h11 => ?_)
        refine pe_iload (j := 6) (by decide +kernel) rfl ?_
        refine pe_iconstv (n := 0) (v := 0) (by decide +kernel) (by decide +kernel) ?_
        refine pe_iconstv (n := 3) (v := 3) (by decide +kernel) (by decide +kernel) ?_
        refine pi_S (j := 119) (mj := 199) (by decide +kernel) (by decide +kernel) rfl ?_
        show pmE pg X pg_tyl pg_cl (d + 6) 199 0 [.int x6, .int 0, .int 3] [] (md wc f2 A3) _
        refine pe_iload_n (j := 0) (by decide +kernel) rfl ?_
        refine pe_iload_n (j := 1) (by decide +kernel) rfl ?_
        have lw13 := zi_lo x6
        have uw13 := zi_hi x6
        refine pz_icmp_lt (off := 12) (t := 14) (by decide +kernel) (by decide) rfl rfl kz_0 (fun h12 => ?_) (fun h12 => ?_)
        · skip
          refine pe_iconstv (n := 0) (v := 0) (by decide +kernel) (by decide +kernel) ?_
          refine pe_iret (by decide +kernel) rfl rfl ⟨rfl, rfl, ?_⟩
          show pmE pg X pg_tyl pg_cl (d + 7) 302 28 [.ref 147, .int x1, .int x2, .int x3, .int x4, .int x5, .int x6, pm_dead, pm_dead, pm_dead, pm_dead, pm_dead] [.int 0] (md wc f2 A3) _
          refine pz_if_ne (off := 6) (t := 34) (by decide +kernel) (by decide) rfl kz_0 (fun h14 => by omega) (fun h14 => ?_)
          refine pe_bipushv (n := (-2)) (v := (-2)) (by decide +kernel) (by decide +kernel) ?_
          exact pe_iret (by decide +kernel) rfl rfl ⟨f2, A3, (-2), rfl, hIq1, (fun k n14 n15 n16 n33 => (hGq1 k n14 n15 n16)), (fun k n152 n153 => (hFq1 k n152 n153)), ⟨trivial, trivial⟩⟩
        · skip
          refine pe_iload_n (j := 0) (by decide +kernel) rfl ?_
          refine pe_iload_n (j := 2) (by decide +kernel) rfl ?_
          refine pz_icmp_gt (off := 7) (t := 14) (by decide +kernel) (by decide) rfl rfl kz_3 (fun h15 => ?_) (fun h15 => ?_)
          · skip
            refine pe_iconstv (n := 0) (v := 0) (by decide +kernel) (by decide +kernel) ?_
            refine pe_iret (by decide +kernel) rfl rfl ⟨rfl, rfl, ?_⟩
            show pmE pg X pg_tyl pg_cl (d + 7) 302 28 [.ref 147, .int x1, .int x2, .int x3, .int x4, .int x5, .int x6, pm_dead, pm_dead, pm_dead, pm_dead, pm_dead] [.int 0] (md wc f2 A3) _
            refine pz_if_ne (off := 6) (t := 34) (by decide +kernel) (by decide) rfl kz_0 (fun h16 => by omega) (fun h16 => ?_)
            refine pe_bipushv (n := (-2)) (v := (-2)) (by decide +kernel) (by decide +kernel) ?_
            exact pe_iret (by decide +kernel) rfl rfl ⟨f2, A3, (-2), rfl, hIq1, (fun k n14 n15 n16 n33 => (hGq1 k n14 n15 n16)), (fun k n152 n153 => (hFq1 k n152 n153)), ⟨trivial, trivial⟩⟩
          · skip
            refine pe_iconstv (n := 1) (v := 1) (by decide +kernel) (by decide +kernel) ?_
            refine pe_goto (off := 4) (t := 15) (by decide +kernel) (by decide) rfl ?_
            refine pe_iret (by decide +kernel) rfl rfl ⟨rfl, rfl, ?_⟩
            show pmE pg X pg_tyl pg_cl (d + 7) 302 28 [.ref 147, .int x1, .int x2, .int x3, .int x4, .int x5, .int x6, pm_dead, pm_dead, pm_dead, pm_dead, pm_dead] [.int 1] (md wc f2 A3) _
            refine pz_if_ne (off := 6) (t := 34) (by decide +kernel) (by decide) rfl kz_1 (fun h17 => ?_) (fun h17 => by omega)
            refine pe_iconstv (n := 0) (v := 0) (by decide +kernel) (by decide +kernel) ?_
            refine pe_iload_n (j := 1) (by decide +kernel) rfl ?_
            refine pi_S (j := 163) (mj := 217) (by decide +kernel) (by decide +kernel) rfl ?_
            show pmE pg X pg_tyl pg_cl (d + 6) 217 0 [.int 0, .int x1] [] (md wc f2 A3) _
            refine pe_iload_n (j := 0) (by decide +kernel) rfl ?_
            refine pz_if_ne (off := 15) (t := 16) (by decide +kernel) (by decide) rfl kz_0 (fun h18 => by omega) (fun h18 => ?_)
            refine pe_sipushv (n := 610) (v := 610) (by decide +kernel) (by decide +kernel) ?_
            refine pe_sipushv (n := 132) (v := 132) (by decide +kernel) (by decide +kernel) ?_
            refine pe_iload_n (j := 1) (by decide +kernel) rfl ?_
            refine pz_mul (by decide +kernel) kz_132 rfl (by omega) (by omega) (fun z19 hz19 => ?_)
            refine pz_add (by decide +kernel) kz_610 hz19 (by omega) (by omega) (fun z20 hz20 => ?_)
            clear hz19
            refine pe_goto (off := 12) (t := 25) (by decide +kernel) (by decide) rfl ?_
            refine pe_iret (by decide +kernel) rfl rfl ⟨rfl, rfl, ?_⟩
            show pmE pg X pg_tyl pg_cl (d + 7) 302 39 [.ref 147, .int x1, .int x2, .int x3, .int x4, .int x5, .int x6, pm_dead, pm_dead, pm_dead, pm_dead, pm_dead] [.int z20] (md wc f2 A3) _
            refine pe_istore (j := 7) (ls' := [.ref 147, .int x1, .int x2, .int x3, .int x4, .int x5, .int x6, .int z20, pm_dead, pm_dead, pm_dead, pm_dead]) (by decide +kernel) (Nat.le_of_ble_eq_true rfl) rfl ?_
            refine pe_aload_n (j := 0) (by decide +kernel) rfl ?_
            refine pe_iload (j := 4) (by decide +kernel) rfl ?_
            refine mz_put33 (jj := 364) (by decide +kernel) (by decide +kernel) hc hIq1 (fun f21 ef21 hIf21 => ?_)
            refine pe_iconstv (n := 0) (v := 0) (by decide +kernel) (by decide +kernel) ?_
            refine pe_istore (j := 8) (ls' := [.ref 147, .int x1, .int x2, .int x3, .int x4, .int x5, .int x6, .int z20, .int 0, pm_dead, pm_dead, pm_dead]) (by decide +kernel) (Nat.le_of_ble_eq_true rfl) rfl ?_
            refine pe_iconstv (n := (-1)) (v := (-1)) (by decide +kernel) (by decide +kernel) ?_
            refine pe_istore (j := 9) (ls' := [.ref 147, .int x1, .int x2, .int x3, .int x4, .int x5, .int x6, .int z20, .int 0, .int (-1), pm_dead, pm_dead]) (by decide +kernel) (Nat.le_of_ble_eq_true rfl) rfl ?_
            refine pe_iconstv (n := 1) (v := 1) (by decide +kernel) (by decide +kernel) ?_
            refine pe_istore (j := 10) (ls' := [.ref 147, .int x1, .int x2, .int x3, .int x4, .int x5, .int x6, .int z20, .int 0, .int (-1), .int 1, pm_dead]) (by decide +kernel) (Nat.le_of_ble_eq_true rfl) rfl ?_
            refine ML_302_56 hc (by omega) (by omega) (by omega) (by omega) (by omega) (by omega) (fun f22 A23 y25 y26 y27 u28 hIy24 hGhIy24 hFhIy24 gy26 gy27 => ?_) 25 f21 A3 0 (-1) 1 (pm_dead) hIf21 (fun k _ _ => rfl) (fun k _ _ => rfl) (by decide +kernel) (by decide +kernel) (by decide +kernel)
            refine pe_iload (j := 6) (by decide +kernel) rfl ?_
            refine pz_if_ne (off := 10) (t := 158) (by decide +kernel) (by decide) rfl rfl (fun h29 => ?_) (fun h29 => ?_)
            · skip
              refine pe_iload (j := 6) (by decide +kernel) rfl ?_
              refine pe_iconstv (n := 1) (v := 1) (by decide +kernel) (by decide +kernel) ?_
              refine pz_icmp_ne (off := 10) (t := 171) (by decide +kernel) (by decide) rfl rfl kz_1 (fun h30 => ?_) (fun h30 => ?_)
              · skip
                refine pe_iload (j := 6) (by decide +kernel) rfl ?_
                refine pe_iconstv (n := 2) (v := 2) (by decide +kernel) (by decide +kernel) ?_
                refine pz_icmp_ne (off := 8) (t := 182) (by decide +kernel) (by decide) rfl rfl kz_2 (fun h31 => ?_) (fun h31 => ?_)
                · skip
                  refine pe_iload (j := 9) (by decide +kernel) rfl ?_
                  exact pe_iret (by decide +kernel) rfl rfl ⟨f22, A23, y26, rfl, hIy24, (fun k n14 n15 n16 n33 => ((hGhIy24 k n15 n33)).trans ((upf_fr ef21 n33).trans ((hGq1 k n14 n15 n16)))), (fun k n152 n153 => ((hFhIy24 k n152 n153)).trans ((hFq1 k n152 n153))), ⟨trivial, trivial⟩⟩
                · skip
                  refine pe_iload (j := 8) (by decide +kernel) rfl ?_
                  refine pe_goto (off := 5) (t := 184) (by decide +kernel) (by decide) rfl ?_
                  exact pe_iret (by decide +kernel) rfl rfl ⟨f22, A23, y25, rfl, hIy24, (fun k n14 n15 n16 n33 => ((hGhIy24 k n15 n33)).trans ((upf_fr ef21 n33).trans ((hGq1 k n14 n15 n16)))), (fun k n152 n153 => ((hFhIy24 k n152 n153)).trans ((hFq1 k n152 n153))), ⟨trivial, trivial⟩⟩
              · skip
                refine pe_aload_n (j := 0) (by decide +kernel) rfl ?_
                refine pz_callV (j := 244) (mj := 252) (by decide +kernel) (cll_V (args := []) (n := 0) (by decide +kernel) rfl rfl (md_o hc) (by decide +kernel) (Nat.le_of_ble_eq_true rfl) (Nat.le_of_ble_eq_true rfl)) (MM_252 hc hIy24) (fun q32a q32b q32c q32d hqq32 => ?_)
                obtain ⟨rq32, eq32, kq32⟩ := hqq32
                cases eq32
                refine ⟨rfl, rfl, ?_⟩
                show pmE pg X pg_tyl pg_cl (d + 7) 302 168 [.ref 147, .int x1, .int x2, .int x3, .int x4, .int x5, .int x6, .int z20, .int y25, .int y26, .int y27, u28] [.int rq32] (md wc f22 A23) _
                refine pe_goto (off := 16) (t := 184) (by decide +kernel) (by decide) rfl ?_
                exact pe_iret (by decide +kernel) rfl rfl ⟨f22, A23, rq32, rfl, hIy24, (fun k n14 n15 n16 n33 => ((hGhIy24 k n15 n33)).trans ((upf_fr ef21 n33).trans ((hGq1 k n14 n15 n16)))), (fun k n152 n153 => ((hFhIy24 k n152 n153)).trans ((hFq1 k n152 n153))), ⟨trivial, trivial⟩⟩
            · skip
              refine pe_aload_n (j := 0) (by decide +kernel) rfl ?_
              refine pz_callV (j := 257) (mj := 251) (by decide +kernel) (cll_V (args := []) (n := 0) (by decide +kernel) rfl rfl (md_o hc) (by decide +kernel) (Nat.le_of_ble_eq_true rfl) (Nat.le_of_ble_eq_true rfl)) (MM_251 hc hIy24) (fun q33a q33b q33c q33d hqq33 => ?_)
              obtain ⟨rq33, eq33, kq33⟩ := hqq33
              cases eq33
              refine ⟨rfl, rfl, ?_⟩
              show pmE pg X pg_tyl pg_cl (d + 7) 302 155 [.ref 147, .int x1, .int x2, .int x3, .int x4, .int x5, .int x6, .int z20, .int y25, .int y26, .int y27, u28] [.int rq33] (md wc f22 A23) _
              refine pe_goto (off := 29) (t := 184) (by decide +kernel) (by decide) rfl ?_
              exact pe_iret (by decide +kernel) rfl rfl ⟨f22, A23, rq33, rfl, hIy24, (fun k n14 n15 n16 n33 => ((hGhIy24 k n15 n33)).trans ((upf_fr ef21 n33).trans ((hGq1 k n14 n15 n16)))), (fun k n152 n153 => ((hFhIy24 k n152 n153)).trans ((hFq1 k n152 n153))), ⟨trivial, trivial⟩⟩
set_option maxRecDepth 100000 in
set_option maxHeartbeats 8000000 in
theorem ML_301_61 {X : pm_X} {d : Nat} {wc : pm_W} {Q : pm_R → Prop} {f : Nat → Int32} {A0 : Nat → List Int32} {x1 x2 x3 x4 x5 x6 x7 x9 : Int32} (hc : wc.length = 147) (gx1 : (0 ≤ x1.toInt ∧ x1.toInt ≤ 1)) (gx2 : ((-1) ≤ x2.toInt ∧ x2.toInt ≤ 2)) (gx3 : (0 ≤ x3.toInt ∧ x3.toInt ≤ 30)) (gx4 : (0 ≤ x4.toInt ∧ x4.toInt ≤ 8)) (gx5 : (2 ≤ x5.toInt ∧ x5.toInt ≤ 6)) (gx6 : (0 ≤ x6.toInt ∧ x6.toInt ≤ 99)) (gx7 : (610 ≤ x7.toInt ∧ x7.toInt ≤ 742 ∧ (x7.toInt - 610) % 132 = 0)) (gx9 : (2 ≤ x9.toInt ∧ x9.toInt ≤ 6)) (k_124_0 : ∀ (A' : Nat → List Int32) (y8 : Int32) (y10 : Int32), MI f A' → (∀ k : Nat, k ≠ 158 → A' k = A0 k) → (0 ≤ y10.toInt) → pmE pg X pg_tyl pg_cl (d + 8) 301 124 [.ref 147, .int x1, .int x2, .int x3, .int x4, .int x5, .int x6, .int x7, .int y8, .int x9, .int y10] [] (md wc f A') Q) : ∀ (m : Nat) (A : Nat → List Int32) (x8 : Int32) (x10 : Int32), MI f A → (∀ k : Nat, k ≠ 158 → A k = A0 k) → (0 ≤ x10.toInt) → 2147483647 - x10.toInt < (m : Int) → pmE pg X pg_tyl pg_cl (d + 8) 301 61 [.ref 147, .int x1, .int x2, .int x3, .int x4, .int x5, .int x6, .int x7, .int x8, .int x9, .int x10] [] (md wc f A) Q := by
  intro m
  induction m with
  | zero =>
    intro A x8 x10 hI hF gx10 hm
    exfalso
    have l0 := zi_lo x10
    have u0 := zi_hi x10
    omega
  | succ m ih =>
    intro A x8 x10 hI hF gx10 hm
    refine pe_iload (j := 10) (by decide +kernel) rfl ?_
    refine pe_iload (j := 9) (by decide +kernel) rfl ?_
    refine pe_iconstv (n := 1) (v := 1) (by decide +kernel) (by decide +kernel) ?_
    refine pz_sub (by decide +kernel) rfl kz_1 (by omega) (by omega) (fun z1 hz1 => ?_)
    refine pz_callS (j := 286) (mj := 267) (by decide +kernel) (by decide +kernel) rfl (MM_267 hc hI (by omega)) (fun q2a q2b q2c q2d hqq2 => ?_)
    obtain ⟨rq2, eq2, kq2⟩ := hqq2
    cases eq2
    refine ⟨rfl, rfl, ?_⟩
    show pmE pg X pg_tyl pg_cl (d + 8) 301 70 [.ref 147, .int x1, .int x2, .int x3, .int x4, .int x5, .int x6, .int x7, .int x8, .int x9, .int x10] [.int rq2, .int x10] (md wc f A) _
    have lw4 := zi_lo x10
    have uw4 := zi_hi x10
    have lw5 := zi_lo rq2
    have uw5 := zi_hi rq2
    refine pz_icmp_ge (off := 54) (t := 124) (by decide +kernel) (by decide) rfl rfl rfl (fun h3 => ?_) (fun h3 => ?_)
    · skip
      exact k_124_0 A x8 x10 hI (fun k n158 => (hF k n158)) (by omega)
    · skip
      refine pe_aload_n (j := 0) (by decide +kernel) rfl ?_
      refine pe_get (j := 41) (ci := 12) (n := 21) (by decide +kernel) (by decide +kernel) (md_o hc) rfl ?_
      refine pe_iconstv (n := 0) (v := 0) (by decide +kernel) (by decide +kernel) ?_
      refine pe_iload (j := 4) (by decide +kernel) rfl ?_
      refine mz_st158 (by decide +kernel) hc hI kz_0 (by omega) (by omega) (by simp only [MP_round]; omega) (fun A6 eA6 hIA6 => ?_)
      refine pe_iload (j := 8) (by decide +kernel) rfl ?_
      refine pe_aload_n (j := 0) (by decide +kernel) rfl ?_
      refine pe_iload (j := 7) (by decide +kernel) rfl ?_
      refine pe_iconstv (n := 1) (v := 1) (by decide +kernel) (by decide +kernel) ?_
      refine pe_iload (j := 9) (by decide +kernel) rfl ?_
      refine pe_iload (j := 10) (by decide +kernel) rfl ?_
      refine pz_callV (j := 289) (mj := 268) (by decide +kernel) (cll_V (args := [.int x10, .int x9, .int 1, .int x7]) (n := 4) (by decide +kernel) rfl rfl (md_o hc) (by decide +kernel) (Nat.le_of_ble_eq_true rfl) (Nat.le_of_ble_eq_true rfl)) (MM_268 hc hIA6 (by omega) (by decide +kernel) (by omega) (by omega)) (fun q7a q7b q7c q7d hqq7 => ?_)
      obtain ⟨A8, rq7, eq7, hIq7, hFq7, kq7⟩ := hqq7
      cases eq7
      refine ⟨rfl, rfl, ?_⟩
      rcases kq7 with kq7 | kq7
      · skip
        obtain ⟨erq7, kq7⟩ := kq7
        subst erq7
        show pmE pg X pg_tyl pg_cl (d + 8) 301 94 [.ref 147, .int x1, .int x2, .int x3, .int x4, .int x5, .int x6, .int x7, .int x8, .int x9, .int x10] [.int 0, .int x8] (md wc f A8) _
        refine pz_if_eq (off := 20) (t := 114) (by decide +kernel) (by decide) rfl kz_0 (fun h9 => ?_) (fun h9 => by omega)
        refine pe_iconstv (n := 0) (v := 0) (by decide +kernel) (by decide +kernel) ?_
        have lw11 := zi_lo x8
        have uw11 := zi_hi x8
        refine pz_add (by decide +kernel) rfl kz_0 (by omega) (by omega) (fun z10 hz10 => ?_)
        refine pe_istore (j := 8) (ls' := [.ref 147, .int x1, .int x2, .int x3, .int x4, .int x5, .int x6, .int x7, .int z10, .int x9, .int x10]) (by decide +kernel) (Nat.le_of_ble_eq_true rfl) rfl ?_
        refine pz_iinc (j := 10) (n := 1) (by decide +kernel) rfl rfl (by decide +kernel) (by omega) (by omega) (fun z12 hz12 => ?_)
        show pmE pg X pg_tyl pg_cl (d + 8) 301 121 [.ref 147, .int x1, .int x2, .int x3, .int x4, .int x5, .int x6, .int x7, .int z10, .int x9, .int z12] [] (md wc f A8) _
        refine pe_goto (off := (-60)) (t := 61) (by decide +kernel) (by decide) rfl ?_
        exact ih A8 z10 z12 hIq7 (fun k n158 => ((hFq7 k n158)).trans ((upa_fr eA6 n158).trans ((hF k n158)))) (by omega) (by omega)
      · skip
        obtain ⟨erq7, kq7⟩ := kq7
        subst erq7
        obtain ⟨hq13, kq7⟩ := kq7
        show pmE pg X pg_tyl pg_cl (d + 8) 301 94 [.ref 147, .int x1, .int x2, .int x3, .int x4, .int x5, .int x6, .int x7, .int x8, .int x9, .int x10] [.int 1, .int x8] (md wc f A8) _
        refine pz_if_eq (off := 20) (t := 114) (by decide +kernel) (by decide) rfl kz_1 (fun h14 => by omega) (fun h14 => ?_)
        refine pe_aload_n (j := 0) (by decide +kernel) rfl ?_
        refine pe_iload (j := 7) (by decide +kernel) rfl ?_
        refine pe_iload (j := 9) (by decide +kernel) rfl ?_
        refine pe_iload (j := 6) (by decide +kernel) rfl ?_
        have hq15 : (∀ j : Int, (0) ≤ j → j < (x9.toInt) → 0 ≤ ((A8 158).getD j.toNat 0).toInt ∧ ((A8 158).getD j.toNat 0).toInt ≤ 8) := by
          intro j h1 h2
          first
          | (exfalso; omega)
          | exact hq13 j (by omega) (by omega)
        refine pz_callV (j := 293) (mj := 269) (by decide +kernel) (cll_V (args := [.int x6, .int x9, .int x7]) (n := 3) (by decide +kernel) rfl rfl (md_o hc) (by decide +kernel) (Nat.le_of_ble_eq_true rfl) (Nat.le_of_ble_eq_true rfl)) (MM_269 hc hIq7 (by omega) (by omega) hq15) (fun q16a q16b q16c q16d hqq16 => ?_)
        obtain ⟨rq16, eq16, kq16⟩ := hqq16
        cases eq16
        refine ⟨rfl, rfl, ?_⟩
        show pmE pg X pg_tyl pg_cl (d + 8) 301 107 [.ref 147, .int x1, .int x2, .int x3, .int x4, .int x5, .int x6, .int x7, .int x8, .int x9, .int x10] [.int rq16, .int x8] (md wc f A8) _
        refine pz_if_eq (off := 7) (t := 114) (by decide +kernel) (by decide) rfl rfl (fun h17 => ?_) (fun h17 => ?_)
        · skip
          refine pe_iconstv (n := 0) (v := 0) (by decide +kernel) (by decide +kernel) ?_
          have lw19 := zi_lo x8
          have uw19 := zi_hi x8
          refine pz_add (by decide +kernel) rfl kz_0 (by omega) (by omega) (fun z18 hz18 => ?_)
          refine pe_istore (j := 8) (ls' := [.ref 147, .int x1, .int x2, .int x3, .int x4, .int x5, .int x6, .int x7, .int z18, .int x9, .int x10]) (by decide +kernel) (Nat.le_of_ble_eq_true rfl) rfl ?_
          refine pz_iinc (j := 10) (n := 1) (by decide +kernel) rfl rfl (by decide +kernel) (by omega) (by omega) (fun z20 hz20 => ?_)
          show pmE pg X pg_tyl pg_cl (d + 8) 301 121 [.ref 147, .int x1, .int x2, .int x3, .int x4, .int x5, .int x6, .int x7, .int z18, .int x9, .int z20] [] (md wc f A8) _
          refine pe_goto (off := (-60)) (t := 61) (by decide +kernel) (by decide) rfl ?_
          exact ih A8 z18 z20 hIq7 (fun k n158 => ((hFq7 k n158)).trans ((upa_fr eA6 n158).trans ((hF k n158)))) (by omega) (by omega)
        · skip
          refine pe_iconstv (n := 1) (v := 1) (by decide +kernel) (by decide +kernel) ?_
          refine pe_goto (off := 4) (t := 115) (by decide +kernel) (by decide) rfl ?_
          refine pw_add (by decide +kernel) (fun z21 => ?_)
          refine pe_istore (j := 8) (ls' := [.ref 147, .int x1, .int x2, .int x3, .int x4, .int x5, .int x6, .int x7, .int z21, .int x9, .int x10]) (by decide +kernel) (Nat.le_of_ble_eq_true rfl) rfl ?_
          refine pz_iinc (j := 10) (n := 1) (by decide +kernel) rfl rfl (by decide +kernel) (by omega) (by omega) (fun z22 hz22 => ?_)
          show pmE pg X pg_tyl pg_cl (d + 8) 301 121 [.ref 147, .int x1, .int x2, .int x3, .int x4, .int x5, .int x6, .int x7, .int z21, .int x9, .int z22] [] (md wc f A8) _
          refine pe_goto (off := (-60)) (t := 61) (by decide +kernel) (by decide) rfl ?_
          exact ih A8 z21 z22 hIq7 (fun k n158 => ((hFq7 k n158)).trans ((upa_fr eA6 n158).trans ((hF k n158)))) (by omega) (by omega)
set_option maxRecDepth 100000 in
set_option maxHeartbeats 8000000 in
theorem ML_301_51 {X : pm_X} {d : Nat} {wc : pm_W} {Q : pm_R → Prop} {f : Nat → Int32} {A0 : Nat → List Int32} {x1 x2 x3 x4 x5 x6 x7 : Int32} (hc : wc.length = 147) (gx1 : (0 ≤ x1.toInt ∧ x1.toInt ≤ 1)) (gx2 : ((-1) ≤ x2.toInt ∧ x2.toInt ≤ 2)) (gx3 : (0 ≤ x3.toInt ∧ x3.toInt ≤ 30)) (gx4 : (0 ≤ x4.toInt ∧ x4.toInt ≤ 8)) (gx5 : (2 ≤ x5.toInt ∧ x5.toInt ≤ 6)) (gx6 : (0 ≤ x6.toInt ∧ x6.toInt ≤ 99)) (gx7 : (610 ≤ x7.toInt ∧ x7.toInt ≤ 742 ∧ (x7.toInt - 610) % 132 = 0)) (k_130_0 : ∀ (A' : Nat → List Int32) (y8 : Int32) (y9 : Int32) (v10 : Value), MI f A' → (∀ k : Nat, k ≠ 158 → A' k = A0 k) → (3 ≤ y9.toInt ∧ y9.toInt ≤ 7) → x5.toInt ≤ y9.toInt → pmE pg X pg_tyl pg_cl (d + 8) 301 130 [.ref 147, .int x1, .int x2, .int x3, .int x4, .int x5, .int x6, .int x7, .int y8, .int y9, v10] [] (md wc f A') Q) : ∀ (m : Nat) (A : Nat → List Int32) (x8 : Int32) (x9 : Int32) (u10 : Value), MI f A → (∀ k : Nat, k ≠ 158 → A k = A0 k) → (2 ≤ x9.toInt ∧ x9.toInt ≤ 7) → 7 - x9.toInt < (m : Int) → pmE pg X pg_tyl pg_cl (d + 8) 301 51 [.ref 147, .int x1, .int x2, .int x3, .int x4, .int x5, .int x6, .int x7, .int x8, .int x9, u10] [] (md wc f A) Q := by
  intro m
  induction m with
  | zero =>
    intro A x8 x9 u10 hI hF gx9 hm
    exfalso
    have l0 := zi_lo x9
    have u0 := zi_hi x9
    omega
  | succ m ih =>
    intro A x8 x9 u10 hI hF gx9 hm
    refine pe_iload (j := 9) (by decide +kernel) rfl ?_
    refine pe_iload (j := 5) (by decide +kernel) rfl ?_
    refine pz_icmp_gt (off := 75) (t := 130) (by decide +kernel) (by decide) rfl rfl rfl (fun h1 => ?_) (fun h1 => ?_)
    · skip
      exact k_130_0 A x8 x9 (u10) hI (fun k n158 => (hF k n158)) (by omega) (by omega)
    · skip
      refine pe_iconstv (n := 0) (v := 0) (by decide +kernel) (by decide +kernel) ?_
      refine pe_istore (j := 10) (ls' := [.ref 147, .int x1, .int x2, .int x3, .int x4, .int x5, .int x6, .int x7, .int x8, .int x9, .int 0]) (by decide +kernel) (Nat.le_of_ble_eq_true rfl) rfl ?_
      refine ML_301_61 hc (by omega) (by omega) (by omega) (by omega) (by omega) (by omega) (by omega) (by omega) (fun A2 y4 y5 hIy3 hFhIy3 gy5 => ?_) 2147483648 A x8 0 hI (fun k _ => rfl) (by decide +kernel) (by decide +kernel)
      refine pz_iinc (j := 9) (n := 1) (by decide +kernel) rfl rfl (by decide +kernel) (by omega) (by omega) (fun z6 hz6 => ?_)
      show pmE pg X pg_tyl pg_cl (d + 8) 301 127 [.ref 147, .int x1, .int x2, .int x3, .int x4, .int x5, .int x6, .int x7, .int y4, .int z6, .int y5] [] (md wc f A2) _
      refine pe_goto (off := (-76)) (t := 51) (by decide +kernel) (by decide) rfl ?_
      exact ih A2 y4 z6 (.int y5) hIy3 (fun k n158 => ((hFhIy3 k n158)).trans ((hF k n158))) (by omega) (by omega)
set_option maxRecDepth 100000 in
set_option maxHeartbeats 8000000 in
theorem MM_301 {X : pm_X} {d : Nat} {wc : pm_W} {f : Nat → Int32} {A : Nat → List Int32} {x1 x2 x3 x4 x5 x6 : Int32} (hc : wc.length = 147) (hI : MI f A) : pmE pg X pg_tyl pg_cl (d + 8) 301 0 (pm_ent (pm_max pg 301) [.ref 147, .int x1, .int x2, .int x3, .int x4, .int x5, .int x6]) [] (md wc f A) (fun q => ∃ (f' : Nat → Int32) (A' : Nat → List Int32) (r : Int32), q = (some (.int r), md wc f' A', 0, 0) ∧ MI f' A' ∧ (∀ k : Nat, k ≠ 14 → k ≠ 15 → k ≠ 16 → f' k = f k) ∧ (∀ k : Nat, k ≠ 152 → k ≠ 153 → k ≠ 158 → A' k = A k) ∧ ((True ∧ True))) := by
  show pmE pg X pg_tyl pg_cl (d + 8) 301 0 [.ref 147, .int x1, .int x2, .int x3, .int x4, .int x5, .int x6, pm_dead, pm_dead, pm_dead, pm_dead] [] (md wc f A) _
  refine pe_aload_n (j := 0) (by decide +kernel) rfl ?_
  refine pe_iload_n (j := 1) (by decide +kernel) rfl ?_
  refine pe_iload_n (j := 2) (by decide +kernel) rfl ?_
  refine pe_iload_n (j := 3) (by decide +kernel) rfl ?_
  refine pe_iload (j := 4) (by decide +kernel) rfl ?_
  refine pe_iload (j := 4) (by decide +kernel) rfl ?_
  refine pz_callV (j := 235) (mj := 245) (by decide +kernel) (cll_V (args := [.int x4, .int x4, .int x3, .int x2, .int x1]) (n := 5) (by decide +kernel) rfl rfl (md_o hc) (by decide +kernel) (Nat.le_of_ble_eq_true rfl) (Nat.le_of_ble_eq_true rfl)) (MM_245 hc hI) (fun q1a q1b q1c q1d hqq1 => ?_)
  obtain ⟨f2, A3, rq1, eq1, hIq1, hGq1, hFq1, kq1⟩ := hqq1
  cases eq1
  refine ⟨rfl, rfl, ?_⟩
  rcases kq1 with kq1 | kq1
  · skip
    obtain ⟨erq1, kq1⟩ := kq1
    subst erq1
    show pmE pg X pg_tyl pg_cl (d + 8) 301 11 [.ref 147, .int x1, .int x2, .int x3, .int x4, .int x5, .int x6, pm_dead, pm_dead, pm_dead, pm_dead] [.int 0] (md wc f2 A3) _
    refine pz_if_eq (off := 25) (t := 36) (by decide +kernel) (by decide) rfl kz_0 (fun h4 => ?_) (fun h4 => by omega)
    refine pe_iconstv (n := (-1)) (v := (-1)) (by decide +kernel) (by decide +kernel) ?_
    exact pe_iret (by decide +kernel) rfl rfl ⟨f2, A3, (-1), rfl, hIq1, (fun k n14 n15 n16 => (hGq1 k n14 n15 n16)), (fun k n152 n153 n158 => (hFq1 k n152 n153)), ⟨trivial, trivial⟩⟩
  · skip
    obtain ⟨erq1, kq1⟩ := kq1
    subst erq1
    show pmE pg X pg_tyl pg_cl (d + 8) 301 11 [.ref 147, .int x1, .int x2, .int x3, .int x4, .int x5, .int x6, pm_dead, pm_dead, pm_dead, pm_dead] [.int 1] (md wc f2 A3) _
    refine pz_if_eq (off := 25) (t := 36) (by decide +kernel) (by decide) rfl kz_1 (fun h5 => by omega) (fun h5 => ?_)
    refine pe_iload (j := 5) (by decide +kernel) rfl ?_
    refine pe_iconstv (n := 2) (v := 2) (by decide +kernel) (by decide +kernel) ?_
    refine pe_bipushv (n := 6) (v := 6) (by decide +kernel) (by decide +kernel) ?_
    refine pi_S (j := 119) (mj := 199) (by decide +kernel) (by decide +kernel) rfl ?_
    show pmE pg X pg_tyl pg_cl (d + 7) 199 0 [.int x5, .int 2, .int 6] [] (md wc f2 A3) _
    refine pe_iload_n (j := 0) (by decide +kernel) rfl ?_
    refine pe_iload_n (j := 1) (by decide +kernel) rfl ?_
    have lw7 := zi_lo x5
    have uw7 := zi_hi x5
    refine pz_icmp_lt (off := 12) (t := 14) (by decide +kernel) (by decide) rfl rfl kz_2 (fun h6 => ?_) (fun h6 => ?_)
    · skip
      refine pe_iconstv (n := 0) (v := 0) (by decide +kernel) (by decide +kernel) ?_
      refine pe_iret (by decide +kernel) rfl rfl ⟨rfl, rfl, ?_⟩
      show pmE pg X pg_tyl pg_cl (d + 8) 301 22 [.ref 147, .int x1, .int x2, .int x3, .int x4, .int x5, .int x6, pm_dead, pm_dead, pm_dead, pm_dead] [.int 0] (md wc f2 A3) _
      refine pz_if_eq (off := 14) (t := 36) (by decide +kernel) (by decide) rfl kz_0 (fun h8 => ?_) (fun h8 => by omega)
      refine pe_iconstv (n := (-1)) (v := (-1)) (by decide +kernel) (by decide +kernel) ?_
      exact pe_iret (by decide +kernel) rfl rfl ⟨f2, A3, (-1), rfl, hIq1, (fun k n14 n15 n16 => (hGq1 k n14 n15 n16)), (fun k n152 n153 n158 => (hFq1 k n152 n153)), ⟨trivial, trivial⟩⟩
    · skip
      refine pe_iload_n (j := 0) (by decide +kernel) rfl ?_
      refine pe_iload_n (j := 2) (by decide +kernel) rfl ?_
      refine pz_icmp_gt (off := 7) (t := 14) (by decide +kernel) (by decide) rfl rfl kz_6 (fun h9 => ?_) (fun h9 => ?_)
      · skip
        refine pe_iconstv (n := 0) (v := 0) (by decide +kernel) (by decide +kernel) ?_
        refine pe_iret (by decide +kernel) rfl rfl ⟨rfl, rfl, ?_⟩
        show pmE pg X pg_tyl pg_cl (d + 8) 301 22 [.ref 147, .int x1, .int x2, .int x3, .int x4, .int x5, .int x6, pm_dead, pm_dead, pm_dead, pm_dead] [.int 0] (md wc f2 A3) _
        refine pz_if_eq (off := 14) (t := 36) (by decide +kernel) (by decide) rfl kz_0 (fun h10 => ?_) (fun h10 => by omega)
        refine pe_iconstv (n := (-1)) (v := (-1)) (by decide +kernel) (by decide +kernel) ?_
        exact pe_iret (by decide +kernel) rfl rfl ⟨f2, A3, (-1), rfl, hIq1, (fun k n14 n15 n16 => (hGq1 k n14 n15 n16)), (fun k n152 n153 n158 => (hFq1 k n152 n153)), ⟨trivial, trivial⟩⟩
      · skip
        refine pe_iconstv (n := 1) (v := 1) (by decide +kernel) (by decide +kernel) ?_
        refine pe_goto (off := 4) (t := 15) (by decide +kernel) (by decide) rfl ?_
        refine pe_iret (by decide +kernel) rfl rfl ⟨rfl, rfl, ?_⟩
        show pmE pg X pg_tyl pg_cl (d + 8) 301 22 [.ref 147, .int x1, .int x2, .int x3, .int x4, .int x5, .int x6, pm_dead, pm_dead, pm_dead, pm_dead] [.int 1] (md wc f2 A3) _
        refine pz_if_eq (off := 14) (t := 36) (by decide +kernel) (by decide) rfl kz_1 (fun h11 => by omega) (fun h11 => ?_)
        refine pe_iload (j := 6) (by decide +kernel) rfl ?_
        refine pe_iconstv (n := 0) (v := 0) (by decide +kernel) (by decide +kernel) ?_
        refine pe_bipushv (n := 99) (v := 99) (by decide +kernel) (by decide +kernel) ?_
        refine pi_S (j := 119) (mj := 199) (by decide +kernel) (by decide +kernel) rfl ?_
        show pmE pg X pg_tyl pg_cl (d + 7) 199 0 [.int x6, .int 0, .int 99] [] (md wc f2 A3) _
        refine pe_iload_n (j := 0) (by decide +kernel) rfl ?_
        refine pe_iload_n (j := 1) (by decide +kernel) rfl ?_
        have lw13 := zi_lo x6
        have uw13 := zi_hi x6
        refine pz_icmp_lt (off := 12) (t := 14) (by decide +kernel) (by decide) rfl rfl kz_0 (fun h12 => ?_) (fun h12 => ?_)
        · skip
          refine pe_iconstv (n := 0) (v := 0) (by decide +kernel) (by decide +kernel) ?_
          refine pe_iret (by decide +kernel) rfl rfl ⟨rfl, rfl, ?_⟩
          show pmE pg X pg_tyl pg_cl (d + 8) 301 33 [.ref 147, .int x1, .int x2, .int x3, .int x4, .int x5, .int x6, pm_dead, pm_dead, pm_dead, pm_dead] [.int 0] (md wc f2 A3) _
          refine pz_if_ne (off := 5) (t := 38) (by decide +kernel) (by decide) rfl kz_0 (fun h14 => by omega) (fun h14 => ?_)
          refine pe_iconstv (n := (-1)) (v := (-1)) (by decide +kernel) (by decide +kernel) ?_
          exact pe_iret (by decide +kernel) rfl rfl ⟨f2, A3, (-1), rfl, hIq1, (fun k n14 n15 n16 => (hGq1 k n14 n15 n16)), (fun k n152 n153 n158 => (hFq1 k n152 n153)), ⟨trivial, trivial⟩⟩
        · skip
          refine pe_iload_n (j := 0) (by decide +kernel) rfl ?_
          refine pe_iload_n (j := 2) (by decide +kernel) rfl ?_
          refine pz_icmp_gt (off := 7) (t := 14) (by decide +kernel) (by decide) rfl rfl kz_99 (fun h15 => ?_) (fun h15 => ?_)
          · skip
            refine pe_iconstv (n := 0) (v := 0) (by decide +kernel) (by decide +kernel) ?_
            refine pe_iret (by decide +kernel) rfl rfl ⟨rfl, rfl, ?_⟩
            show pmE pg X pg_tyl pg_cl (d + 8) 301 33 [.ref 147, .int x1, .int x2, .int x3, .int x4, .int x5, .int x6, pm_dead, pm_dead, pm_dead, pm_dead] [.int 0] (md wc f2 A3) _
            refine pz_if_ne (off := 5) (t := 38) (by decide +kernel) (by decide) rfl kz_0 (fun h16 => by omega) (fun h16 => ?_)
            refine pe_iconstv (n := (-1)) (v := (-1)) (by decide +kernel) (by decide +kernel) ?_
            exact pe_iret (by decide +kernel) rfl rfl ⟨f2, A3, (-1), rfl, hIq1, (fun k n14 n15 n16 => (hGq1 k n14 n15 n16)), (fun k n152 n153 n158 => (hFq1 k n152 n153)), ⟨trivial, trivial⟩⟩
          · skip
            refine pe_iconstv (n := 1) (v := 1) (by decide +kernel) (by decide +kernel) ?_
            refine pe_goto (off := 4) (t := 15) (by decide +kernel) (by decide) rfl ?_
            refine pe_iret (by decide +kernel) rfl rfl ⟨rfl, rfl, ?_⟩
            show pmE pg X pg_tyl pg_cl (d + 8) 301 33 [.ref 147, .int x1, .int x2, .int x3, .int x4, .int x5, .int x6, pm_dead, pm_dead, pm_dead, pm_dead] [.int 1] (md wc f2 A3) _
            refine pz_if_ne (off := 5) (t := 38) (by decide +kernel) (by decide) rfl kz_1 (fun h17 => ?_) (fun h17 => by omega)
            refine pe_iconstv (n := 0) (v := 0) (by decide +kernel) (by decide +kernel) ?_
            refine pe_iload_n (j := 1) (by decide +kernel) rfl ?_
            refine pi_S (j := 163) (mj := 217) (by decide +kernel) (by decide +kernel) rfl ?_
            show pmE pg X pg_tyl pg_cl (d + 7) 217 0 [.int 0, .int x1] [] (md wc f2 A3) _
            refine pe_iload_n (j := 0) (by decide +kernel) rfl ?_
            refine pz_if_ne (off := 15) (t := 16) (by decide +kernel) (by decide) rfl kz_0 (fun h18 => by omega) (fun h18 => ?_)
            refine pe_sipushv (n := 610) (v := 610) (by decide +kernel) (by decide +kernel) ?_
            refine pe_sipushv (n := 132) (v := 132) (by decide +kernel) (by decide +kernel) ?_
            refine pe_iload_n (j := 1) (by decide +kernel) rfl ?_
            refine pz_mul (by decide +kernel) kz_132 rfl (by omega) (by omega) (fun z19 hz19 => ?_)
            refine pz_add (by decide +kernel) kz_610 hz19 (by omega) (by omega) (fun z20 hz20 => ?_)
            clear hz19
            refine pe_goto (off := 12) (t := 25) (by decide +kernel) (by decide) rfl ?_
            refine pe_iret (by decide +kernel) rfl rfl ⟨rfl, rfl, ?_⟩
            show pmE pg X pg_tyl pg_cl (d + 8) 301 43 [.ref 147, .int x1, .int x2, .int x3, .int x4, .int x5, .int x6, pm_dead, pm_dead, pm_dead, pm_dead] [.int z20] (md wc f2 A3) _
            refine pe_istore (j := 7) (ls' := [.ref 147, .int x1, .int x2, .int x3, .int x4, .int x5, .int x6, .int z20, pm_dead, pm_dead, pm_dead]) (by decide +kernel) (Nat.le_of_ble_eq_true rfl) rfl ?_
            refine pe_iconstv (n := 0) (v := 0) (by decide +kernel) (by decide +kernel) ?_
            refine pe_istore (j := 8) (ls' := [.ref 147, .int x1, .int x2, .int x3, .int x4, .int x5, .int x6, .int z20, .int 0, pm_dead, pm_dead]) (by decide +kernel) (Nat.le_of_ble_eq_true rfl) rfl ?_
            refine pe_iconstv (n := 2) (v := 2) (by decide +kernel) (by decide +kernel) ?_
            refine pe_istore (j := 9) (ls' := [.ref 147, .int x1, .int x2, .int x3, .int x4, .int x5, .int x6, .int z20, .int 0, .int 2, pm_dead]) (by decide +kernel) (Nat.le_of_ble_eq_true rfl) rfl ?_
            refine ML_301_51 hc (by omega) (by omega) (by omega) (by omega) (by omega) (by omega) (by omega) (fun A21 y23 y24 u25 hIy22 hFhIy22 gy24 hr26 => ?_) 6 A3 0 2 (pm_dead) hIq1 (fun k _ => rfl) (by decide +kernel) (by decide +kernel)
            refine pe_iload (j := 8) (by decide +kernel) rfl ?_
            exact pe_iret (by decide +kernel) rfl rfl ⟨f2, A21, y23, rfl, hIy22, (fun k n14 n15 n16 => (hGq1 k n14 n15 n16)), (fun k n152 n153 n158 => ((hFhIy22 k n158)).trans ((hFq1 k n152 n153))), ⟨trivial, trivial⟩⟩
end
section
set_option maxRecDepth 100000 in
set_option maxHeartbeats 8000000 in
theorem ML_305_79 {X : pm_X} {d : Nat} {wc : pm_W} {Q : pm_R → Prop} {f : Nat → Int32} {A0 : Nat → List Int32} {x1 x2 x3 x4 : Int32} (hc : wc.length = 147) (gx1 : (610 ≤ x1.toInt ∧ x1.toInt ≤ 742 ∧ (x1.toInt - 610) % 132 = 0)) (gx3 : (0 ≤ x3.toInt ∧ x3.toInt ≤ 6)) (k_174_0 : ∀ (A' : Nat → List Int32) (y5 : Int32), MI f A' → (∀ k : Nat, k ≠ 152 → k ≠ 166 → A' k = A0 k) → (0 ≤ y5.toInt ∧ y5.toInt ≤ 6) → pmE pg X pg_tyl pg_cl (d + 4) 305 174 [.ref 147, .int x1, .int x2, .int x3, .int x4, .int y5] [] (md wc f A') Q) : ∀ (m : Nat) (A : Nat → List Int32) (x5 : Int32), MI f A → (∀ k : Nat, k ≠ 152 → k ≠ 166 → A k = A0 k) → (0 ≤ x5.toInt ∧ x5.toInt ≤ 6) → 6 - x5.toInt < (m : Int) → pmE pg X pg_tyl pg_cl (d + 4) 305 79 [.ref 147, .int x1, .int x2, .int x3, .int x4, .int x5] [] (md wc f A) Q := by
  intro m
  induction m with
  | zero =>
    intro A x5 hI hF gx5 hm
    exfalso
    have l0 := zi_lo x5
    have u0 := zi_hi x5
    omega
  | succ m ih =>
    intro A x5 hI hF gx5 hm
    refine pe_iload (j := 5) (by decide +kernel) rfl ?_
    refine pe_aload_n (j := 0) (by decide +kernel) rfl ?_
    refine pe_get (j := 283) (ci := 12) (n := 23) (by decide +kernel) (by decide +kernel) (md_o hc) rfl ?_
    have hr_23_f := hI.1 23
    simp only [MF] at hr_23_f
    refine pz_icmp_ge (off := 89) (t := 174) (by decide +kernel) (by decide) rfl rfl rfl (fun h1 => ?_) (fun h1 => ?_)
    · skip
      exact k_174_0 A x5 hI (fun k n152 n166 => (hF k n152 n166)) (by omega)
    · skip
      refine pe_aload_n (j := 0) (by decide +kernel) rfl ?_
      refine pe_get (j := 23) (ci := 12) (n := 12) (by decide +kernel) (by decide +kernel) (md_o hc) rfl ?_
      refine pe_bipushv (n := 9) (v := 9) (by decide +kernel) (by decide +kernel) ?_
      refine pe_aload_n (j := 0) (by decide +kernel) rfl ?_
      refine pe_get (j := 44) (ci := 12) (n := 22) (by decide +kernel) (by decide +kernel) (md_o hc) rfl ?_
      refine pe_iload (j := 5) (by decide +kernel) rfl ?_
      refine mz_ld159 (by decide +kernel) hc hI rfl (by omega) (by omega) (fun v2 ev2 pv2 => ?_)
      rw [show A 159 = A0 159 from (hF 159 (by decide) (by decide))] at ev2
      have rv2 : 0 ≤ v2.toInt ∧ v2.toInt ≤ 8 := by have p := pv2; simp only [MP_bestRound] at p; omega
      clear pv2
      refine pz_mul (by decide +kernel) kz_9 rfl (by omega) (by omega) (fun z3 hz3 => ?_)
      refine pe_aload_n (j := 0) (by decide +kernel) rfl ?_
      refine pe_get (j := 44) (ci := 12) (n := 22) (by decide +kernel) (by decide +kernel) (md_o hc) rfl ?_
      refine pe_iload (j := 5) (by decide +kernel) rfl ?_
      refine pe_iconstv (n := 1) (v := 1) (by decide +kernel) (by decide +kernel) ?_
      refine pz_add (by decide +kernel) rfl kz_1 (by omega) (by omega) (fun z4 hz4 => ?_)
      refine pe_aload_n (j := 0) (by decide +kernel) rfl ?_
      refine pe_get (j := 283) (ci := 12) (n := 23) (by decide +kernel) (by decide +kernel) (md_o hc) rfl ?_
      refine pz_rem (by decide +kernel) hz4 rfl (by omega) (by omega) (fun z5 hz5 gz5 kz5 => ?_)
      clear hz5
      refine mz_ld159 (by decide +kernel) hc hI rfl (by omega) (by omega) (fun v6 ev6 pv6 => ?_)
      rw [show A 159 = A0 159 from (hF 159 (by decide) (by decide))] at ev6
      have rv6 : 0 ≤ v6.toInt ∧ v6.toInt ≤ 8 := by have p := pv6; simp only [MP_bestRound] at p; omega
      clear pv6
      refine pz_add (by decide +kernel) hz3 rfl (by omega) (by omega) (fun z7 hz7 => ?_)
      clear hz3
      refine pe_dup2 (by decide +kernel) ⟨rfl, rfl⟩ ?_
      refine mz_ld152 (by decide +kernel) hc hI hz7 (by omega) (by omega) (fun v8 ev8 => ?_)
      refine pe_iload (j := 4) (by decide +kernel) rfl ?_
      refine pw_add (by decide +kernel) (fun z9 => ?_)
      refine mz_st152 (by decide +kernel) hc hI hz7 (by omega) (by omega) (fun A10 eA10 hIA10 => ?_)
      refine pe_aload_n (j := 0) (by decide +kernel) rfl ?_
      refine pe_get (j := 72) (ci := 12) (n := 34) (by decide +kernel) (by decide +kernel) (md_o hc) rfl ?_
      refine pe_aload_n (j := 0) (by decide +kernel) rfl ?_
      refine pe_get (j := 44) (ci := 12) (n := 22) (by decide +kernel) (by decide +kernel) (md_o hc) rfl ?_
      refine pe_iload (j := 5) (by decide +kernel) rfl ?_
      refine mz_ld159 (by decide +kernel) hc hIA10 rfl (by omega) (by omega) (fun v11 ev11 pv11 => ?_)
      rw [show A10 159 = A0 159 from (upa_fr eA10 (by decide)).trans ((hF 159 (by decide) (by decide)))] at ev11
      rw [ev11.trans ev2.symm]
      clear pv11 ev11 v11
      refine pe_dup2 (by decide +kernel) ⟨rfl, rfl⟩ ?_
      refine mz_ld166 (by decide +kernel) hc hIA10 rfl (by omega) (by omega) (fun v12 ev12 => ?_)
      rw [show A10 166 = A 166 from upa_fr eA10 (by decide)] at ev12
      refine pe_iload (j := 5) (by decide +kernel) rfl ?_
      refine pe_iconstv (n := 2) (v := 2) (by decide +kernel) (by decide +kernel) ?_
      refine pz_icmp_ge (off := 7) (t := 146) (by decide +kernel) (by decide) rfl rfl kz_2 (fun h13 => ?_) (fun h13 => ?_)
      · skip
        refine pe_iload (j := 4) (by decide +kernel) rfl ?_
        refine pe_aload_n (j := 0) (by decide +kernel) rfl ?_
        refine pe_get (j := 7) (ci := 12) (n := 0) (by decide +kernel) (by decide +kernel) (md_o hc) rfl ?_
        refine pe_iload_n (j := 1) (by decide +kernel) rfl ?_
        refine pe_bipushv (n := 84) (v := 84) (by decide +kernel) (by decide +kernel) ?_
        refine pz_add (by decide +kernel) rfl kz_84 (by omega) (by omega) (fun z14 hz14 => ?_)
        refine pe_aload_n (j := 0) (by decide +kernel) rfl ?_
        refine pe_get (j := 44) (ci := 12) (n := 22) (by decide +kernel) (by decide +kernel) (md_o hc) rfl ?_
        refine pe_iload (j := 5) (by decide +kernel) rfl ?_
        refine mz_ld159 (by decide +kernel) hc hIA10 rfl (by omega) (by omega) (fun v15 ev15 pv15 => ?_)
        rw [show A10 159 = A0 159 from (upa_fr eA10 (by decide)).trans ((hF 159 (by decide) (by decide)))] at ev15
        rw [ev15.trans ev2.symm]
        clear pv15 ev15 v15
        refine pz_add (by decide +kernel) hz14 rfl (by omega) (by omega) (fun z16 hz16 => ?_)
        clear hz14
        refine mz_ld148 (by decide +kernel) hc hIA10 hz16 (by omega) (by omega) (fun v17 ev17 pv17 => ?_)
        rw [show A10 148 = A0 148 from (upa_fr eA10 (by decide)).trans ((hF 148 (by decide) (by decide)))] at ev17
        clear pv17
        clear hz16
        refine pw_mul (by decide +kernel) (fun z18 => ?_)
        refine pw_add (by decide +kernel) (fun z19 => ?_)
        refine mz_st166 (by decide +kernel) hc hIA10 rfl (by omega) (by omega) (fun A20 eA20 hIA20 => ?_)
        refine pz_iinc (j := 5) (n := 1) (by decide +kernel) rfl rfl (by decide +kernel) (by omega) (by omega) (fun z21 hz21 => ?_)
        show pmE pg X pg_tyl pg_cl (d + 4) 305 171 [.ref 147, .int x1, .int x2, .int x3, .int x4, .int z21] [] (md wc f A20) _
        refine pe_goto (off := (-92)) (t := 79) (by decide +kernel) (by decide) rfl ?_
        exact ih A20 z21 hIA20 (fun k n152 n166 => (upa_fr eA20 n166).trans ((upa_fr eA10 n152).trans ((hF k n152 n166)))) (by omega) (by omega)
      · skip
        refine pe_iconstv (n := 0) (v := 0) (by decide +kernel) (by decide +kernel) ?_
        refine pe_goto (off := 23) (t := 166) (by decide +kernel) (by decide) rfl ?_
        have lw23 := zi_lo v12
        have uw23 := zi_hi v12
        refine pz_add (by decide +kernel) rfl kz_0 (by omega) (by omega) (fun z22 hz22 => ?_)
        refine mz_st166 (by decide +kernel) hc hIA10 rfl (by omega) (by omega) (fun A24 eA24 hIA24 => ?_)
        refine pz_iinc (j := 5) (n := 1) (by decide +kernel) rfl rfl (by decide +kernel) (by omega) (by omega) (fun z25 hz25 => ?_)
        show pmE pg X pg_tyl pg_cl (d + 4) 305 171 [.ref 147, .int x1, .int x2, .int x3, .int x4, .int z25] [] (md wc f A24) _
        refine pe_goto (off := (-92)) (t := 79) (by decide +kernel) (by decide) rfl ?_
        exact ih A24 z25 hIA24 (fun k n152 n166 => (upa_fr eA24 n166).trans ((upa_fr eA10 n152).trans ((hF k n152 n166)))) (by omega) (by omega)
set_option maxRecDepth 100000 in
set_option maxHeartbeats 8000000 in
theorem ML_305_28 {X : pm_X} {d : Nat} {wc : pm_W} {Q : pm_R → Prop} {f0 : Nat → Int32} {A0 : Nat → List Int32} {x1 x2 : Int32} (hc : wc.length = 147) (gx1 : (610 ≤ x1.toInt ∧ x1.toInt ≤ 742 ∧ (x1.toInt - 610) % 132 = 0)) (k_180_0 : ∀ (f' : Nat → Int32) (A' : Nat → List Int32) (y3 : Int32) (v4 : Value) (v5 : Value), MI f' A' → (∀ k : Nat, k ≠ 23 → k ≠ 24 → k ≠ 35 → f' k = f0 k) → (∀ k : Nat, k ≠ 152 → k ≠ 158 → k ≠ 159 → k ≠ 166 → A' k = A0 k) → (0 ≤ y3.toInt ∧ y3.toInt ≤ 7) → pmE pg X pg_tyl pg_cl (d + 4) 305 180 [.ref 147, .int x1, .int x2, .int y3, v4, v5] [] (md wc f' A') Q) : ∀ (m : Nat) (f : Nat → Int32) (A : Nat → List Int32) (x3 : Int32) (u4 : Value) (u5 : Value), MI f A → (∀ k : Nat, k ≠ 23 → k ≠ 24 → k ≠ 35 → f k = f0 k) → (∀ k : Nat, k ≠ 152 → k ≠ 158 → k ≠ 159 → k ≠ 166 → A k = A0 k) → (0 ≤ x3.toInt ∧ x3.toInt ≤ 7) → 7 - x3.toInt < (m : Int) → pmE pg X pg_tyl pg_cl (d + 4) 305 28 [.ref 147, .int x1, .int x2, .int x3, u4, u5] [] (md wc f A) Q := by
  intro m
  induction m with
  | zero =>
    intro f A x3 u4 u5 hI hG hF gx3 hm
    exfalso
    have l0 := zi_lo x3
    have u0 := zi_hi x3
    omega
  | succ m ih =>
    intro f A x3 u4 u5 hI hG hF gx3 hm
    refine pe_iload_n (j := 3) (by decide +kernel) rfl ?_
    refine pe_aload_n (j := 0) (by decide +kernel) rfl ?_
    refine pe_get (j := 7) (ci := 12) (n := 0) (by decide +kernel) (by decide +kernel) (md_o hc) rfl ?_
    refine pe_iload_n (j := 1) (by decide +kernel) rfl ?_
    refine pe_iconstv (n := 1) (v := 1) (by decide +kernel) (by decide +kernel) ?_
    refine pz_add (by decide +kernel) rfl kz_1 (by omega) (by omega) (fun z1 hz1 => ?_)
    refine mz_ld148 (by decide +kernel) hc hI hz1 (by omega) (by omega) (fun v2 ev2 pv2 => ?_)
    rw [show A 148 = A0 148 from (hF 148 (by decide) (by decide) (by decide) (by decide))] at ev2
    have rv2 : 0 ≤ v2.toInt ∧ v2.toInt ≤ 7 := MT_wants pv2 (by omega)
    clear pv2
    clear hz1
    refine pz_icmp_ge (off := 143) (t := 180) (by decide +kernel) (by decide) rfl rfl rfl (fun h3 => ?_) (fun h3 => ?_)
    · skip
      exact k_180_0 f A x3 (u4) (u5) hI (fun k n23 n24 n35 => (hG k n23 n24 n35)) (fun k n152 n158 n159 n166 => (hF k n152 n158 n159 n166)) (by omega)
    · skip
      refine pe_aload_n (j := 0) (by decide +kernel) rfl ?_
      refine pe_iload_n (j := 1) (by decide +kernel) rfl ?_
      refine pe_iload_n (j := 3) (by decide +kernel) rfl ?_
      refine pe_iload_n (j := 2) (by decide +kernel) rfl ?_
      refine pe_iconstv (n := (-1)) (v := (-1)) (by decide +kernel) (by decide +kernel) ?_
      refine pe_iconstv (n := 0) (v := 0) (by decide +kernel) (by decide +kernel) ?_
      refine pz_callV (j := 306) (mj := 266) (by decide +kernel) (cll_V (args := [.int 0, .int (-1), .int x2, .int x3, .int x1]) (n := 5) (by decide +kernel) rfl rfl (md_o hc) (by decide +kernel) (Nat.le_of_ble_eq_true rfl) (Nat.le_of_ble_eq_true rfl)) (MM_266 hc hI (by omega) (by omega)) (fun q4a q4b q4c q4d hqq4 => ?_)
      obtain ⟨f5, A6, rq4, eq4, hIq4, hGq4, hFq4, kq4⟩ := hqq4
      cases eq4
      refine ⟨rfl, rfl, ?_⟩
      rcases kq4 with kq4 | kq4
      · skip
        obtain ⟨erq4, kq4⟩ := kq4
        subst erq4
        show pmE pg X pg_tyl pg_cl (d + 4) 305 49 [.ref 147, .int x1, .int x2, .int x3, u4, u5] [.int 0] (md wc f5 A6) _
        refine pz_if_ne (off := 6) (t := 55) (by decide +kernel) (by decide) rfl kz_0 (fun h7 => by omega) (fun h7 => ?_)
        refine pe_goto (off := 122) (t := 174) (by decide +kernel) (by decide) rfl ?_
        refine pz_iinc (j := 3) (n := 1) (by decide +kernel) rfl rfl (by decide +kernel) (by omega) (by omega) (fun z8 hz8 => ?_)
        show pmE pg X pg_tyl pg_cl (d + 4) 305 177 [.ref 147, .int x1, .int x2, .int z8, u4, u5] [] (md wc f5 A6) _
        refine pe_goto (off := (-149)) (t := 28) (by decide +kernel) (by decide) rfl ?_
        exact ih f5 A6 z8 (u4) (u5) hIq4 (fun k n23 n24 n35 => ((hGq4 k n23 n24)).trans ((hG k n23 n24 n35))) (fun k n152 n158 n159 n166 => ((hFq4 k n158 n159)).trans ((hF k n152 n158 n159 n166))) (by omega) (by omega)
      · skip
        obtain ⟨erq4, kq4⟩ := kq4
        subst erq4
        show pmE pg X pg_tyl pg_cl (d + 4) 305 49 [.ref 147, .int x1, .int x2, .int x3, u4, u5] [.int 1] (md wc f5 A6) _
        refine pz_if_ne (off := 6) (t := 55) (by decide +kernel) (by decide) rfl kz_1 (fun h9 => ?_) (fun h9 => by omega)
        refine pe_aload_n (j := 0) (by decide +kernel) rfl ?_
        refine pe_iload_n (j := 1) (by decide +kernel) rfl ?_
        refine pe_iload_n (j := 3) (by decide +kernel) rfl ?_
        refine pe_iconstv (n := 2) (v := 2) (by decide +kernel) (by decide +kernel) ?_
        refine pi_V (j := 172) (mj := 224) (by decide +kernel) (cll_V (args := [.int 2, .int x3, .int x1]) (n := 3) (by decide +kernel) rfl rfl (md_o hc) (by decide +kernel) (Nat.le_of_ble_eq_true rfl) (Nat.le_of_ble_eq_true rfl)) ?_
        show pmE pg X pg_tyl pg_cl (d + 3) 224 0 [.ref 147, .int x1, .int x3, .int 2] [] (md wc f5 A6) _
        refine pe_aload_n (j := 0) (by decide +kernel) rfl ?_
        refine pe_get (j := 7) (ci := 12) (n := 0) (by decide +kernel) (by decide +kernel) (md_o hc) rfl ?_
        refine pe_iload_n (j := 1) (by decide +kernel) rfl ?_
        refine pe_bipushv (n := 102) (v := 102) (by decide +kernel) (by decide +kernel) ?_
        refine pz_add (by decide +kernel) rfl kz_102 (by omega) (by omega) (fun z10 hz10 => ?_)
        refine pe_iconstv (n := 4) (v := 4) (by decide +kernel) (by decide +kernel) ?_
        refine pe_iload_n (j := 2) (by decide +kernel) rfl ?_
        refine pz_mul (by decide +kernel) kz_4 rfl (by omega) (by omega) (fun z11 hz11 => ?_)
        refine pz_add (by decide +kernel) hz10 hz11 (by omega) (by omega) (fun z12 hz12 => ?_)
        clear hz10 hz11
        refine pe_iload_n (j := 3) (by decide +kernel) rfl ?_
        refine pz_add (by decide +kernel) hz12 kz_2 (by omega) (by omega) (fun z13 hz13 => ?_)
        clear hz12
        refine mz_ld148 (by decide +kernel) hc hIq4 hz13 (by omega) (by omega) (fun v14 ev14 pv14 => ?_)
        rw [show A6 148 = A0 148 from ((hFq4 148 (by decide) (by decide))).trans ((hF 148 (by decide) (by decide) (by decide) (by decide)))] at ev14
        clear pv14
        clear hz13
        refine pe_iret (by decide +kernel) rfl rfl ⟨rfl, rfl, ?_⟩
        show pmE pg X pg_tyl pg_cl (d + 4) 305 62 [.ref 147, .int x1, .int x2, .int x3, u4, u5] [.int v14] (md wc f5 A6) _
        refine pe_istore (j := 4) (ls' := [.ref 147, .int x1, .int x2, .int x3, .int v14, u5]) (by decide +kernel) (Nat.le_of_ble_eq_true rfl) rfl ?_
        refine pe_aload_n (j := 0) (by decide +kernel) rfl ?_
        refine pe_dup (by decide +kernel) rfl ?_
        refine pe_get (j := 371) (ci := 12) (n := 35) (by decide +kernel) (by decide +kernel) (md_o hc) rfl ?_
        refine pe_top (v := (f 35)) ((hGq4 35 (by decide) (by decide))) ?_
        refine pe_iconstv (n := 1) (v := 1) (by decide +kernel) (by decide +kernel) ?_
        refine pe_iload_n (j := 3) (by decide +kernel) rfl ?_
        refine pz_shl1 (by decide +kernel) rfl (by omega) (by omega) (fun z15 hz15 => ?_)
        refine pw_or (by decide +kernel) (fun z16 => ?_)
        refine mz_put35 (jj := 371) (by decide +kernel) (by decide +kernel) hc hIq4 (fun f17 ef17 hIf17 => ?_)
        refine pe_iconstv (n := 0) (v := 0) (by decide +kernel) (by decide +kernel) ?_
        refine pe_istore (j := 5) (ls' := [.ref 147, .int x1, .int x2, .int x3, .int v14, .int 0]) (by decide +kernel) (Nat.le_of_ble_eq_true rfl) rfl ?_
        refine ML_305_79 hc (by omega) (by omega) (fun A18 y20 hIy19 hFhIy19 gy20 => ?_) 7 A6 0 hIf17 (fun k _ _ => rfl) (by decide +kernel) (by decide +kernel)
        refine pz_iinc (j := 3) (n := 1) (by decide +kernel) rfl rfl (by decide +kernel) (by omega) (by omega) (fun z21 hz21 => ?_)
        show pmE pg X pg_tyl pg_cl (d + 4) 305 177 [.ref 147, .int x1, .int x2, .int z21, .int v14, .int y20] [] (md wc f17 A18) _
        refine pe_goto (off := (-149)) (t := 28) (by decide +kernel) (by decide) rfl ?_
        exact ih f17 A18 z21 (.int v14) (.int y20) hIy19 (fun k n23 n24 n35 => (upf_fr ef17 n35).trans (((hGq4 k n23 n24)).trans ((hG k n23 n24 n35)))) (fun k n152 n158 n159 n166 => ((hFhIy19 k n152 n166)).trans (((hFq4 k n158 n159)).trans ((hF k n152 n158 n159 n166)))) (by omega) (by omega)
set_option maxRecDepth 100000 in
set_option maxHeartbeats 8000000 in
theorem ML_305_7 {X : pm_X} {d : Nat} {wc : pm_W} {Q : pm_R → Prop} {f : Nat → Int32} {A0 : Nat → List Int32} {x1 x2 : Int32} (hc : wc.length = 147) (gx1 : (610 ≤ x1.toInt ∧ x1.toInt ≤ 742 ∧ (x1.toInt - 610) % 132 = 0)) (k_26_0 : ∀ (A' : Nat → List Int32) (y3 : Int32), MI f A' → (∀ k : Nat, k ≠ 166 → A' k = A0 k) → (9 ≤ y3.toInt ∧ y3.toInt ≤ 9) → pmE pg X pg_tyl pg_cl (d + 4) 305 26 [.ref 147, .int x1, .int x2, .int y3, pm_dead, pm_dead] [] (md wc f A') Q) : ∀ (m : Nat) (A : Nat → List Int32) (x3 : Int32), MI f A → (∀ k : Nat, k ≠ 166 → A k = A0 k) → (0 ≤ x3.toInt ∧ x3.toInt ≤ 9) → 9 - x3.toInt < (m : Int) → pmE pg X pg_tyl pg_cl (d + 4) 305 7 [.ref 147, .int x1, .int x2, .int x3, pm_dead, pm_dead] [] (md wc f A) Q := by
  intro m
  induction m with
  | zero =>
    intro A x3 hI hF gx3 hm
    exfalso
    have l0 := zi_lo x3
    have u0 := zi_hi x3
    omega
  | succ m ih =>
    intro A x3 hI hF gx3 hm
    refine pe_iload_n (j := 3) (by decide +kernel) rfl ?_
    refine pe_bipushv (n := 9) (v := 9) (by decide +kernel) (by decide +kernel) ?_
    refine pz_icmp_ge (off := 16) (t := 26) (by decide +kernel) (by decide) rfl rfl kz_9 (fun h1 => ?_) (fun h1 => ?_)
    · skip
      exact k_26_0 A x3 hI (fun k n166 => (hF k n166)) (by omega)
    · skip
      refine pe_aload_n (j := 0) (by decide +kernel) rfl ?_
      refine pe_get (j := 72) (ci := 12) (n := 34) (by decide +kernel) (by decide +kernel) (md_o hc) rfl ?_
      refine pe_iload_n (j := 3) (by decide +kernel) rfl ?_
      refine pe_iconstv (n := 0) (v := 0) (by decide +kernel) (by decide +kernel) ?_
      refine mz_st166 (by decide +kernel) hc hI rfl (by omega) (by omega) (fun A2 eA2 hIA2 => ?_)
      refine pz_iinc (j := 3) (n := 1) (by decide +kernel) rfl rfl (by decide +kernel) (by omega) (by omega) (fun z3 hz3 => ?_)
      show pmE pg X pg_tyl pg_cl (d + 4) 305 23 [.ref 147, .int x1, .int x2, .int z3, pm_dead, pm_dead] [] (md wc f A2) _
      refine pe_goto (off := (-16)) (t := 7) (by decide +kernel) (by decide) rfl ?_
      exact ih A2 z3 hIA2 (fun k n166 => (upa_fr eA2 n166).trans ((hF k n166))) (by omega) (by omega)
set_option maxRecDepth 100000 in
set_option maxHeartbeats 8000000 in
theorem MM_305 {X : pm_X} {d : Nat} {wc : pm_W} {f : Nat → Int32} {A : Nat → List Int32} {x1 x2 : Int32} (hc : wc.length = 147) (hI : MI f A) (gx1 : (610 ≤ x1.toInt ∧ x1.toInt ≤ 742 ∧ (x1.toInt - 610) % 132 = 0)) : pmE pg X pg_tyl pg_cl (d + 4) 305 0 (pm_ent (pm_max pg 305) [.ref 147, .int x1, .int x2]) [] (md wc f A) (fun q => ∃ (f' : Nat → Int32) (A' : Nat → List Int32), q = (none, md wc f' A', 0, 0) ∧ MI f' A' ∧ (∀ k : Nat, k ≠ 23 → k ≠ 24 → k ≠ 35 → f' k = f k) ∧ (∀ k : Nat, k ≠ 152 → k ≠ 158 → k ≠ 159 → k ≠ 166 → A' k = A k) ∧ ((True))) := by
  show pmE pg X pg_tyl pg_cl (d + 4) 305 0 [.ref 147, .int x1, .int x2, pm_dead, pm_dead, pm_dead] [] (md wc f A) _
  refine pe_aload_n (j := 0) (by decide +kernel) rfl ?_
  refine pe_iconstv (n := 0) (v := 0) (by decide +kernel) (by decide +kernel) ?_
  refine mz_put35 (jj := 371) (by decide +kernel) (by decide +kernel) hc hI (fun f1 ef1 hIf1 => ?_)
  refine pe_iconstv (n := 0) (v := 0) (by decide +kernel) (by decide +kernel) ?_
  refine pe_istore_n (j := 3) (ls' := [.ref 147, .int x1, .int x2, .int 0, pm_dead, pm_dead]) (by decide +kernel) (Nat.le_of_ble_eq_true rfl) rfl ?_
  refine ML_305_7 hc (by omega) (fun A2 y4 hIy3 hFhIy3 gy4 => ?_) 10 A 0 hIf1 (fun k _ => rfl) (by decide +kernel) (by decide +kernel)
  refine pe_iconstv (n := 0) (v := 0) (by decide +kernel) (by decide +kernel) ?_
  refine pe_istore_n (j := 3) (ls' := [.ref 147, .int x1, .int x2, .int 0, pm_dead, pm_dead]) (by decide +kernel) (Nat.le_of_ble_eq_true rfl) rfl ?_
  refine ML_305_28 hc (by omega) (fun f5 A6 y8 u9 u10 hIy7 hGhIy7 hFhIy7 gy8 => ?_) 8 f1 A2 0 (pm_dead) (pm_dead) hIy3 (fun k _ _ _ => rfl) (fun k _ _ _ _ => rfl) (by decide +kernel) (by decide +kernel)
  exact pe_vret (by decide +kernel) rfl ⟨f5, A6, rfl, hIy7, (fun k n23 n24 n35 => ((hGhIy7 k n23 n24 n35)).trans (upf_fr ef1 n35)), (fun k n152 n158 n159 n166 => ((hFhIy7 k n152 n158 n159 n166)).trans ((hFhIy3 k n166))), trivial⟩
set_option maxRecDepth 100000 in
set_option maxHeartbeats 8000000 in
theorem MM_304 {X : pm_X} {d : Nat} {wc : pm_W} {f : Nat → Int32} {A : Nat → List Int32} {x1 x2 x3 x4 x5 : Int32} (hc : wc.length = 147) (hI : MI f A) : pmE pg X pg_tyl pg_cl (d + 7) 304 0 (pm_ent (pm_max pg 304) [.ref 147, .int x1, .int x2, .int x3, .int x4, .int x5]) [] (md wc f A) (fun q => ∃ (f' : Nat → Int32) (A' : Nat → List Int32) (r : Int32), q = (some (.int r), md wc f' A', 0, 0) ∧ MI f' A' ∧ (∀ k : Nat, k ≠ 14 → k ≠ 15 → k ≠ 16 → k ≠ 23 → k ≠ 24 → k ≠ 35 → f' k = f k) ∧ (∀ k : Nat, k ≠ 152 → k ≠ 153 → k ≠ 158 → k ≠ 159 → k ≠ 166 → A' k = A k) ∧ ((True ∧ True))) := by
  show pmE pg X pg_tyl pg_cl (d + 7) 304 0 [.ref 147, .int x1, .int x2, .int x3, .int x4, .int x5, pm_dead] [] (md wc f A) _
  refine pe_iload (j := 4) (by decide +kernel) rfl ?_
  refine pe_iconstv (n := 0) (v := 0) (by decide +kernel) (by decide +kernel) ?_
  refine pe_iconstv (n := 2) (v := 2) (by decide +kernel) (by decide +kernel) ?_
  refine pi_S (j := 119) (mj := 199) (by decide +kernel) (by decide +kernel) rfl ?_
  show pmE pg X pg_tyl pg_cl (d + 6) 199 0 [.int x4, .int 0, .int 2] [] (md wc f A) _
  refine pe_iload_n (j := 0) (by decide +kernel) rfl ?_
  refine pe_iload_n (j := 1) (by decide +kernel) rfl ?_
  have lw2 := zi_lo x4
  have uw2 := zi_hi x4
  refine pz_icmp_lt (off := 12) (t := 14) (by decide +kernel) (by decide) rfl rfl kz_0 (fun h1 => ?_) (fun h1 => ?_)
  · skip
    refine pe_iconstv (n := 0) (v := 0) (by decide +kernel) (by decide +kernel) ?_
    refine pe_iret (by decide +kernel) rfl rfl ⟨rfl, rfl, ?_⟩
    show pmE pg X pg_tyl pg_cl (d + 7) 304 7 [.ref 147, .int x1, .int x2, .int x3, .int x4, .int x5, pm_dead] [.int 0] (md wc f A) _
    refine pz_if_eq (off := 13) (t := 20) (by decide +kernel) (by decide) rfl kz_0 (fun h3 => ?_) (fun h3 => by omega)
    refine pe_iconstv (n := (-1)) (v := (-1)) (by decide +kernel) (by decide +kernel) ?_
    exact pe_iret (by decide +kernel) rfl rfl ⟨f, A, (-1), rfl, hI, (fun k n14 n15 n16 n23 n24 n35 => rfl), (fun k n152 n153 n158 n159 n166 => rfl), ⟨trivial, trivial⟩⟩
  · skip
    refine pe_iload_n (j := 0) (by decide +kernel) rfl ?_
    refine pe_iload_n (j := 2) (by decide +kernel) rfl ?_
    refine pz_icmp_gt (off := 7) (t := 14) (by decide +kernel) (by decide) rfl rfl kz_2 (fun h4 => ?_) (fun h4 => ?_)
    · skip
      refine pe_iconstv (n := 0) (v := 0) (by decide +kernel) (by decide +kernel) ?_
      refine pe_iret (by decide +kernel) rfl rfl ⟨rfl, rfl, ?_⟩
      show pmE pg X pg_tyl pg_cl (d + 7) 304 7 [.ref 147, .int x1, .int x2, .int x3, .int x4, .int x5, pm_dead] [.int 0] (md wc f A) _
      refine pz_if_eq (off := 13) (t := 20) (by decide +kernel) (by decide) rfl kz_0 (fun h5 => ?_) (fun h5 => by omega)
      refine pe_iconstv (n := (-1)) (v := (-1)) (by decide +kernel) (by decide +kernel) ?_
      exact pe_iret (by decide +kernel) rfl rfl ⟨f, A, (-1), rfl, hI, (fun k n14 n15 n16 n23 n24 n35 => rfl), (fun k n152 n153 n158 n159 n166 => rfl), ⟨trivial, trivial⟩⟩
    · skip
      refine pe_iconstv (n := 1) (v := 1) (by decide +kernel) (by decide +kernel) ?_
      refine pe_goto (off := 4) (t := 15) (by decide +kernel) (by decide) rfl ?_
      refine pe_iret (by decide +kernel) rfl rfl ⟨rfl, rfl, ?_⟩
      show pmE pg X pg_tyl pg_cl (d + 7) 304 7 [.ref 147, .int x1, .int x2, .int x3, .int x4, .int x5, pm_dead] [.int 1] (md wc f A) _
      refine pz_if_eq (off := 13) (t := 20) (by decide +kernel) (by decide) rfl kz_1 (fun h6 => by omega) (fun h6 => ?_)
      refine pe_aload_n (j := 0) (by decide +kernel) rfl ?_
      refine pe_iload_n (j := 1) (by decide +kernel) rfl ?_
      refine pe_iload_n (j := 2) (by decide +kernel) rfl ?_
      refine pe_iload_n (j := 3) (by decide +kernel) rfl ?_
      refine pz_callV (j := 232) (mj := 246) (by decide +kernel) (cll_V (args := [.int x3, .int x2, .int x1]) (n := 3) (by decide +kernel) rfl rfl (md_o hc) (by decide +kernel) (Nat.le_of_ble_eq_true rfl) (Nat.le_of_ble_eq_true rfl)) (MM_246 hc hI) (fun q7a q7b q7c q7d hqq7 => ?_)
      obtain ⟨f8, A9, rq7, eq7, hIq7, hGq7, hFq7, kq7⟩ := hqq7
      cases eq7
      refine ⟨rfl, rfl, ?_⟩
      rcases kq7 with kq7 | kq7
      · skip
        obtain ⟨erq7, kq7⟩ := kq7
        subst erq7
        show pmE pg X pg_tyl pg_cl (d + 7) 304 17 [.ref 147, .int x1, .int x2, .int x3, .int x4, .int x5, pm_dead] [.int 0] (md wc f8 A9) _
        refine pz_if_ne (off := 5) (t := 22) (by decide +kernel) (by decide) rfl kz_0 (fun h10 => by omega) (fun h10 => ?_)
        refine pe_iconstv (n := (-1)) (v := (-1)) (by decide +kernel) (by decide +kernel) ?_
        exact pe_iret (by decide +kernel) rfl rfl ⟨f8, A9, (-1), rfl, hIq7, (fun k n14 n15 n16 n23 n24 n35 => (hGq7 k n14 n15 n16)), (fun k n152 n153 n158 n159 n166 => (hFq7 k n152 n153)), ⟨trivial, trivial⟩⟩
      · skip
        obtain ⟨erq7, kq7⟩ := kq7
        subst erq7
        show pmE pg X pg_tyl pg_cl (d + 7) 304 17 [.ref 147, .int x1, .int x2, .int x3, .int x4, .int x5, pm_dead] [.int 1] (md wc f8 A9) _
        refine pz_if_ne (off := 5) (t := 22) (by decide +kernel) (by decide) rfl kz_1 (fun h11 => ?_) (fun h11 => by omega)
        refine pe_iconstv (n := 0) (v := 0) (by decide +kernel) (by decide +kernel) ?_
        refine pe_iload_n (j := 1) (by decide +kernel) rfl ?_
        refine pi_S (j := 163) (mj := 217) (by decide +kernel) (by decide +kernel) rfl ?_
        show pmE pg X pg_tyl pg_cl (d + 6) 217 0 [.int 0, .int x1] [] (md wc f8 A9) _
        refine pe_iload_n (j := 0) (by decide +kernel) rfl ?_
        refine pz_if_ne (off := 15) (t := 16) (by decide +kernel) (by decide) rfl kz_0 (fun h12 => by omega) (fun h12 => ?_)
        refine pe_sipushv (n := 610) (v := 610) (by decide +kernel) (by decide +kernel) ?_
        refine pe_sipushv (n := 132) (v := 132) (by decide +kernel) (by decide +kernel) ?_
        refine pe_iload_n (j := 1) (by decide +kernel) rfl ?_
        refine pz_mul (by decide +kernel) kz_132 rfl (by omega) (by omega) (fun z13 hz13 => ?_)
        refine pz_add (by decide +kernel) kz_610 hz13 (by omega) (by omega) (fun z14 hz14 => ?_)
        clear hz13
        refine pe_goto (off := 12) (t := 25) (by decide +kernel) (by decide) rfl ?_
        refine pe_iret (by decide +kernel) rfl rfl ⟨rfl, rfl, ?_⟩
        show pmE pg X pg_tyl pg_cl (d + 7) 304 27 [.ref 147, .int x1, .int x2, .int x3, .int x4, .int x5, pm_dead] [.int z14] (md wc f8 A9) _
        refine pe_istore (j := 6) (ls' := [.ref 147, .int x1, .int x2, .int x3, .int x4, .int x5, .int z14]) (by decide +kernel) (Nat.le_of_ble_eq_true rfl) rfl ?_
        refine pe_aload_n (j := 0) (by decide +kernel) rfl ?_
        refine pe_iload (j := 6) (by decide +kernel) rfl ?_
        refine pe_iload (j := 4) (by decide +kernel) rfl ?_
        refine pz_callV (j := 374) (mj := 305) (by decide +kernel) (cll_V (args := [.int x4, .int z14]) (n := 2) (by decide +kernel) rfl rfl (md_o hc) (by decide +kernel) (Nat.le_of_ble_eq_true rfl) (Nat.le_of_ble_eq_true rfl)) (MM_305 hc hIq7 (by omega)) (fun q15a q15b q15c q15d hqq15 => ?_)
        obtain ⟨f16, A17, eq15, hIq15, hGq15, hFq15, kq15⟩ := hqq15
        cases eq15
        refine ⟨rfl, rfl, ?_⟩
        show pmE pg X pg_tyl pg_cl (d + 7) 304 37 [.ref 147, .int x1, .int x2, .int x3, .int x4, .int x5, .int z14] [] (md wc f16 A17) _
        refine pe_iload (j := 5) (by decide +kernel) rfl ?_
        have lw19 := zi_lo x5
        have uw19 := zi_hi x5
        refine pz_if_ne (off := 8) (t := 47) (by decide +kernel) (by decide) rfl rfl (fun h18 => ?_) (fun h18 => ?_)
        · skip
          refine pe_iload (j := 5) (by decide +kernel) rfl ?_
          refine pe_iconstv (n := 1) (v := 1) (by decide +kernel) (by decide +kernel) ?_
          refine pz_icmp_ne (off := 16) (t := 66) (by decide +kernel) (by decide) rfl rfl kz_1 (fun h20 => ?_) (fun h20 => ?_)
          · skip
            refine pe_iload (j := 5) (by decide +kernel) rfl ?_
            refine pe_bipushv (n := 10) (v := 10) (by decide +kernel) (by decide +kernel) ?_
            refine pe_bipushv (n := 9) (v := 9) (by decide +kernel) (by decide +kernel) ?_
            refine pe_aload_n (j := 0) (by decide +kernel) rfl ?_
            refine pe_get (j := 7) (ci := 12) (n := 0) (by decide +kernel) (by decide +kernel) (md_o hc) rfl ?_
            refine pe_iload (j := 6) (by decide +kernel) rfl ?_
            refine mz_ld148 (by decide +kernel) hc hIq15 hz14 (by omega) (by omega) (fun v21 ev21 pv21 => ?_)
            rw [show A17 148 = A 148 from ((hFq15 148 (by decide) (by decide) (by decide) (by decide))).trans ((hFq7 148 (by decide) (by decide)))] at ev21
            have rv21 : 0 ≤ v21.toInt ∧ v21.toInt ≤ 9 := MT_people pv21 (by omega)
            clear pv21
            refine pz_add (by decide +kernel) kz_9 rfl (by omega) (by omega) (fun z22 hz22 => ?_)
            refine pi_S (j := 119) (mj := 199) (by decide +kernel) (by decide +kernel) rfl ?_
            show pmE pg X pg_tyl pg_cl (d + 6) 199 0 [.int x5, .int 10, .int z22] [] (md wc f16 A17) _
            refine pe_iload_n (j := 0) (by decide +kernel) rfl ?_
            refine pe_iload_n (j := 1) (by decide +kernel) rfl ?_
            refine pz_icmp_lt (off := 12) (t := 14) (by decide +kernel) (by decide) rfl rfl kz_10 (fun h23 => ?_) (fun h23 => ?_)
            · skip
              refine pe_iconstv (n := 0) (v := 0) (by decide +kernel) (by decide +kernel) ?_
              refine pe_iret (by decide +kernel) rfl rfl ⟨rfl, rfl, ?_⟩
              show pmE pg X pg_tyl pg_cl (d + 7) 304 83 [.ref 147, .int x1, .int x2, .int x3, .int x4, .int x5, .int z14] [.int 0] (md wc f16 A17) _
              refine pz_if_eq (off := 16) (t := 99) (by decide +kernel) (by decide) rfl kz_0 (fun h24 => ?_) (fun h24 => by omega)
              refine pe_iconstv (n := (-1)) (v := (-1)) (by decide +kernel) (by decide +kernel) ?_
              exact pe_iret (by decide +kernel) rfl rfl ⟨f16, A17, (-1), rfl, hIq15, (fun k n14 n15 n16 n23 n24 n35 => ((hGq15 k n23 n24 n35)).trans ((hGq7 k n14 n15 n16))), (fun k n152 n153 n158 n159 n166 => ((hFq15 k n152 n158 n159 n166)).trans ((hFq7 k n152 n153))), ⟨trivial, trivial⟩⟩
            · skip
              refine pe_iload_n (j := 0) (by decide +kernel) rfl ?_
              refine pe_iload_n (j := 2) (by decide +kernel) rfl ?_
              refine pz_icmp_gt (off := 7) (t := 14) (by decide +kernel) (by decide) rfl rfl hz22 (fun h25 => ?_) (fun h25 => ?_)
              · skip
                refine pe_iconstv (n := 0) (v := 0) (by decide +kernel) (by decide +kernel) ?_
                refine pe_iret (by decide +kernel) rfl rfl ⟨rfl, rfl, ?_⟩
                show pmE pg X pg_tyl pg_cl (d + 7) 304 83 [.ref 147, .int x1, .int x2, .int x3, .int x4, .int x5, .int z14] [.int 0] (md wc f16 A17) _
                refine pz_if_eq (off := 16) (t := 99) (by decide +kernel) (by decide) rfl kz_0 (fun h26 => ?_) (fun h26 => by omega)
                refine pe_iconstv (n := (-1)) (v := (-1)) (by decide +kernel) (by decide +kernel) ?_
                exact pe_iret (by decide +kernel) rfl rfl ⟨f16, A17, (-1), rfl, hIq15, (fun k n14 n15 n16 n23 n24 n35 => ((hGq15 k n23 n24 n35)).trans ((hGq7 k n14 n15 n16))), (fun k n152 n153 n158 n159 n166 => ((hFq15 k n152 n158 n159 n166)).trans ((hFq7 k n152 n153))), ⟨trivial, trivial⟩⟩
              · skip
                refine pe_iconstv (n := 1) (v := 1) (by decide +kernel) (by decide +kernel) ?_
                refine pe_goto (off := 4) (t := 15) (by decide +kernel) (by decide) rfl ?_
                refine pe_iret (by decide +kernel) rfl rfl ⟨rfl, rfl, ?_⟩
                show pmE pg X pg_tyl pg_cl (d + 7) 304 83 [.ref 147, .int x1, .int x2, .int x3, .int x4, .int x5, .int z14] [.int 1] (md wc f16 A17) _
                refine pz_if_eq (off := 16) (t := 99) (by decide +kernel) (by decide) rfl kz_1 (fun h27 => by omega) (fun h27 => ?_)
                refine pe_aload_n (j := 0) (by decide +kernel) rfl ?_
                refine pe_get (j := 72) (ci := 12) (n := 34) (by decide +kernel) (by decide +kernel) (md_o hc) rfl ?_
                refine pe_iload (j := 5) (by decide +kernel) rfl ?_
                refine pe_bipushv (n := 10) (v := 10) (by decide +kernel) (by decide +kernel) ?_
                refine pz_sub (by decide +kernel) rfl kz_10 (by omega) (by omega) (fun z28 hz28 => ?_)
                refine mz_ld166 (by decide +kernel) hc hIq15 hz28 (by omega) (by omega) (fun v29 ev29 => ?_)
                clear hz28
                refine pe_goto (off := 4) (t := 100) (by decide +kernel) (by decide) rfl ?_
                exact pe_iret (by decide +kernel) rfl rfl ⟨f16, A17, v29, rfl, hIq15, (fun k n14 n15 n16 n23 n24 n35 => ((hGq15 k n23 n24 n35)).trans ((hGq7 k n14 n15 n16))), (fun k n152 n153 n158 n159 n166 => ((hFq15 k n152 n158 n159 n166)).trans ((hFq7 k n152 n153))), ⟨trivial, trivial⟩⟩
          · skip
            refine pe_aload_n (j := 0) (by decide +kernel) rfl ?_
            refine pe_iload (j := 6) (by decide +kernel) rfl ?_
            refine pe_aload_n (j := 0) (by decide +kernel) rfl ?_
            refine pe_get (j := 371) (ci := 12) (n := 35) (by decide +kernel) (by decide +kernel) (md_o hc) rfl ?_
            refine pz_callV (j := 340) (mj := 288) (by decide +kernel) (cll_V (args := [.int (f16 35), .int z14]) (n := 2) (by decide +kernel) rfl rfl (md_o hc) (by decide +kernel) (Nat.le_of_ble_eq_true rfl) (Nat.le_of_ble_eq_true rfl)) (MM_288 hc hIq15 (by omega)) (fun q30a q30b q30c q30d hqq30 => ?_)
            obtain ⟨rq30, eq30, kq30⟩ := hqq30
            cases eq30
            refine ⟨rfl, rfl, ?_⟩
            show pmE pg X pg_tyl pg_cl (d + 7) 304 63 [.ref 147, .int x1, .int x2, .int x3, .int x4, .int x5, .int z14] [.int rq30] (md wc f16 A17) _
            refine pe_goto (off := 37) (t := 100) (by decide +kernel) (by decide) rfl ?_
            exact pe_iret (by decide +kernel) rfl rfl ⟨f16, A17, rq30, rfl, hIq15, (fun k n14 n15 n16 n23 n24 n35 => ((hGq15 k n23 n24 n35)).trans ((hGq7 k n14 n15 n16))), (fun k n152 n153 n158 n159 n166 => ((hFq15 k n152 n158 n159 n166)).trans ((hFq7 k n152 n153))), ⟨trivial, trivial⟩⟩
        · skip
          refine pe_aload_n (j := 0) (by decide +kernel) rfl ?_
          refine pe_get (j := 371) (ci := 12) (n := 35) (by decide +kernel) (by decide +kernel) (md_o hc) rfl ?_
          exact pe_iret (by decide +kernel) rfl rfl ⟨f16, A17, (f16 35), rfl, hIq15, (fun k n14 n15 n16 n23 n24 n35 => ((hGq15 k n23 n24 n35)).trans ((hGq7 k n14 n15 n16))), (fun k n152 n153 n158 n159 n166 => ((hFq15 k n152 n158 n159 n166)).trans ((hFq7 k n152 n153))), ⟨trivial, trivial⟩⟩
end
