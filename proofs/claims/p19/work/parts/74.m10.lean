section
set_option maxRecDepth 100000 in
set_option maxHeartbeats 8000000 in
theorem ML_228_12 {X : pm_X} {d : Nat} {wc : pm_W} {Q : pm_R → Prop} {f0 : Nat → Int32} {A0 : Nat → List Int32} {x1 x2 x3 : Int32} (hc : wc.length = 147) (gx1 : (610 ≤ x1.toInt ∧ x1.toInt ≤ 742 ∧ (x1.toInt - 610) % 132 = 0)) (gx2 : (0 ≤ x2.toInt ∧ x2.toInt ≤ 2)) (k_81_0 : ∀ (f' : Nat → Int32) (A' : Nat → List Int32) (y4 : Int32), MI f' A' → (∀ k : Nat, k ≠ 14 → k ≠ 15 → k ≠ 16 → f' k = f0 k) → (∀ k : Nat, k ≠ 152 → k ≠ 153 → A' k = A0 k) → (0 ≤ y4.toInt ∧ y4.toInt ≤ 30) → pmE pg X pg_tyl pg_cl (d + 5) 228 81 [.ref 147, .int x1, .int x2, .int x3, .int y4] [] (md wc f' A') Q) : ∀ (m : Nat) (f : Nat → Int32) (A : Nat → List Int32) (x4 : Int32), MI f A → (∀ k : Nat, k ≠ 14 → k ≠ 15 → k ≠ 16 → f k = f0 k) → (∀ k : Nat, k ≠ 152 → k ≠ 153 → A k = A0 k) → (0 ≤ x4.toInt ∧ x4.toInt ≤ 30) → ((f 14).toInt + (-1) * x4.toInt) ≤ 0 → 30 - x4.toInt < (m : Int) → pmE pg X pg_tyl pg_cl (d + 5) 228 12 [.ref 147, .int x1, .int x2, .int x3, .int x4] [] (md wc f A) Q := by
  intro m
  induction m with
  | zero =>
    intro f A x4 hI hG hF gx4 hxi0 hm
    exfalso
    have l0 := zi_lo x4
    have u0 := zi_hi x4
    omega
  | succ m ih =>
    intro f A x4 hI hG hF gx4 hxi0 hm
    have hr_14_f := hI.1 14
    simp only [MF] at hr_14_f
    refine pe_iload (j := 4) (by decide +kernel) rfl ?_
    refine pe_iload_n (j := 3) (by decide +kernel) rfl ?_
    have lw2 := zi_lo x3
    have uw2 := zi_hi x3
    refine pz_icmp_ge (off := 66) (t := 81) (by decide +kernel) (by decide) rfl rfl rfl (fun h1 => ?_) (fun h1 => ?_)
    · skip
      exact k_81_0 f A x4 hI (fun k n14 n15 n16 => (hG k n14 n15 n16)) (fun k n152 n153 => (hF k n152 n153)) (by omega)
    · skip
      refine pe_iload (j := 4) (by decide +kernel) rfl ?_
      refine pe_aload_n (j := 0) (by decide +kernel) rfl ?_
      refine pe_get (j := 7) (ci := 12) (n := 0) (by decide +kernel) (by decide +kernel) (md_o hc) rfl ?_
      refine pe_iconstv (n := 1) (v := 1) (by decide +kernel) (by decide +kernel) ?_
      refine pe_iload_n (j := 2) (by decide +kernel) rfl ?_
      refine pi_S (j := 163) (mj := 217) (by decide +kernel) (by decide +kernel) rfl ?_
      show pmE pg X pg_tyl pg_cl (d + 4) 217 0 [.int 1, .int x2] [] (md wc f A) _
      refine pe_iload_n (j := 0) (by decide +kernel) rfl ?_
      refine pz_if_ne (off := 15) (t := 16) (by decide +kernel) (by decide) rfl kz_1 (fun h3 => ?_) (fun h3 => by omega)
      refine pe_sipushv (n := 874) (v := 874) (by decide +kernel) (by decide +kernel) ?_
      refine pe_sipushv (n := 272) (v := 272) (by decide +kernel) (by decide +kernel) ?_
      refine pe_iload_n (j := 1) (by decide +kernel) rfl ?_
      refine pz_mul (by decide +kernel) kz_272 rfl (by omega) (by omega) (fun z4 hz4 => ?_)
      refine pz_add (by decide +kernel) kz_874 hz4 (by omega) (by omega) (fun z5 hz5 => ?_)
      clear hz4
      refine pe_iret (by decide +kernel) rfl rfl ⟨rfl, rfl, ?_⟩
      show pmE pg X pg_tyl pg_cl (d + 5) 228 29 [.ref 147, .int x1, .int x2, .int x3, .int x4] [.int z5, .ref 148, .int x4] (md wc f A) _
      refine mz_ld148 (by decide +kernel) hc hI hz5 (by omega) (by omega) (fun v6 ev6 pv6 => ?_)
      rw [show A 148 = A0 148 from (hF 148 (by decide) (by decide))] at ev6
      have rv6 : 0 ≤ v6.toInt ∧ v6.toInt ≤ 30 := MT_acts pv6 (by omega)
      clear pv6
      clear hz5
      refine pz_icmp_ge (off := 51) (t := 81) (by decide +kernel) (by decide) rfl rfl rfl (fun h7 => ?_) (fun h7 => ?_)
      · skip
        exact k_81_0 f A x4 hI (fun k n14 n15 n16 => (hG k n14 n15 n16)) (fun k n152 n153 => (hF k n152 n153)) (by omega)
      · skip
        refine pe_aload_n (j := 0) (by decide +kernel) rfl ?_
        refine pe_iload_n (j := 1) (by decide +kernel) rfl ?_
        refine pe_iconstv (n := 1) (v := 1) (by decide +kernel) (by decide +kernel) ?_
        refine pe_iload_n (j := 2) (by decide +kernel) rfl ?_
        refine pi_S (j := 163) (mj := 217) (by decide +kernel) (by decide +kernel) rfl ?_
        show pmE pg X pg_tyl pg_cl (d + 4) 217 0 [.int 1, .int x2] [] (md wc f A) _
        refine pe_iload_n (j := 0) (by decide +kernel) rfl ?_
        refine pz_if_ne (off := 15) (t := 16) (by decide +kernel) (by decide) rfl kz_1 (fun h8 => ?_) (fun h8 => by omega)
        refine pe_sipushv (n := 874) (v := 874) (by decide +kernel) (by decide +kernel) ?_
        refine pe_sipushv (n := 272) (v := 272) (by decide +kernel) (by decide +kernel) ?_
        refine pe_iload_n (j := 1) (by decide +kernel) rfl ?_
        refine pz_mul (by decide +kernel) kz_272 rfl (by omega) (by omega) (fun z9 hz9 => ?_)
        refine pz_add (by decide +kernel) kz_874 hz9 (by omega) (by omega) (fun z10 hz10 => ?_)
        clear hz9
        refine pe_iret (by decide +kernel) rfl rfl ⟨rfl, rfl, ?_⟩
        show pmE pg X pg_tyl pg_cl (d + 5) 228 40 [.ref 147, .int x1, .int x2, .int x3, .int x4] [.int z10, .int x1, .ref 147] (md wc f A) _
        refine pe_iconstv (n := 1) (v := 1) (by decide +kernel) (by decide +kernel) ?_
        refine pz_add (by decide +kernel) hz10 kz_1 (by omega) (by omega) (fun z11 hz11 => ?_)
        clear hz10
        refine pe_bipushv (n := 9) (v := 9) (by decide +kernel) (by decide +kernel) ?_
        refine pe_iload (j := 4) (by decide +kernel) rfl ?_
        refine pz_mul (by decide +kernel) kz_9 rfl (by omega) (by omega) (fun z12 hz12 => ?_)
        refine pz_add (by decide +kernel) hz11 hz12 (by omega) (by omega) (fun z13 hz13 => ?_)
        clear hz11 hz12
        refine pz_callV (j := 220) (mj := 230) (by decide +kernel) (cll_V (args := [.int z13, .int x1]) (n := 2) (by decide +kernel) rfl rfl (md_o hc) (by decide +kernel) (Nat.le_of_ble_eq_true rfl) (Nat.le_of_ble_eq_true rfl)) (MM_230 hc hI (by omega) (by omega) (by omega) ⟨x2.toInt, x4.toInt, by omega⟩) (fun q14a q14b q14c q14d hqq14 => ?_)
        obtain ⟨f15, A16, rq14, eq14, hIq14, hGq14, hFq14, hX0q14, kq14⟩ := hqq14
        cases eq14
        refine ⟨rfl, rfl, ?_⟩
        have hr_14_f15 := hIq14.1 14
        simp only [MF] at hr_14_f15
        rcases kq14 with kq14 | kq14
        · skip
          obtain ⟨erq14, kq14⟩ := kq14
          subst erq14
          show pmE pg X pg_tyl pg_cl (d + 5) 228 51 [.ref 147, .int x1, .int x2, .int x3, .int x4] [.int 0] (md wc f15 A16) _
          refine pz_if_eq (off := 30) (t := 81) (by decide +kernel) (by decide) rfl kz_0 (fun h17 => ?_) (fun h17 => by omega)
          exact k_81_0 f15 A16 x4 hIq14 (fun k n14 n15 n16 => ((hGq14 k n14 n15)).trans ((hG k n14 n15 n16))) (fun k n152 n153 => ((hFq14 k n152 n153)).trans ((hF k n152 n153))) (by omega)
        · skip
          obtain ⟨erq14, kq14⟩ := kq14
          subst erq14
          show pmE pg X pg_tyl pg_cl (d + 5) 228 51 [.ref 147, .int x1, .int x2, .int x3, .int x4] [.int 1] (md wc f15 A16) _
          refine pz_if_eq (off := 30) (t := 81) (by decide +kernel) (by decide) rfl kz_1 (fun h18 => by omega) (fun h18 => ?_)
          refine pe_aload_n (j := 0) (by decide +kernel) rfl ?_
          refine pe_get (j := 217) (ci := 12) (n := 16) (by decide +kernel) (by decide +kernel) (md_o hc) rfl ?_
          refine pe_top (v := (f 16)) ((hGq14 16 (by decide) (by decide))) ?_
          have lw20 := zi_lo (f 16)
          have uw20 := zi_hi (f 16)
          refine pz_if_ge (off := 17) (t := 75) (by decide +kernel) (by decide) rfl rfl (fun h19 => ?_) (fun h19 => ?_)
          · skip
            refine pz_iinc (j := 4) (n := 1) (by decide +kernel) rfl rfl (by decide +kernel) (by omega) (by omega) (fun z21 hz21 => ?_)
            show pmE pg X pg_tyl pg_cl (d + 5) 228 78 [.ref 147, .int x1, .int x2, .int x3, .int z21] [] (md wc f15 A16) _
            refine pe_goto (off := (-66)) (t := 12) (by decide +kernel) (by decide) rfl ?_
            exact ih f15 A16 z21 hIq14 (fun k n14 n15 n16 => ((hGq14 k n14 n15)).trans ((hG k n14 n15 n16))) (fun k n152 n153 => ((hFq14 k n152 n153)).trans ((hF k n152 n153))) (by omega) (by omega) (by omega)
          · skip
            refine pe_aload_n (j := 0) (by decide +kernel) rfl ?_
            refine pe_iload_n (j := 1) (by decide +kernel) rfl ?_
            refine pz_callV (j := 223) (mj := 241) (by decide +kernel) (cll_V (args := [.int x1]) (n := 1) (by decide +kernel) rfl rfl (md_o hc) (by decide +kernel) (Nat.le_of_ble_eq_true rfl) (Nat.le_of_ble_eq_true rfl)) (MM_241 hc hIq14 (by omega)) (fun q22a q22b q22c q22d hqq22 => ?_)
            obtain ⟨rq22, eq22, kq22⟩ := hqq22
            cases eq22
            refine ⟨rfl, rfl, ?_⟩
            show pmE pg X pg_tyl pg_cl (d + 5) 228 66 [.ref 147, .int x1, .int x2, .int x3, .int x4] [.int rq22] (md wc f15 A16) _
            refine pz_if_ne (off := 9) (t := 75) (by decide +kernel) (by decide) rfl rfl (fun h23 => ?_) (fun h23 => ?_)
            · skip
              refine pz_iinc (j := 4) (n := 1) (by decide +kernel) rfl rfl (by decide +kernel) (by omega) (by omega) (fun z24 hz24 => ?_)
              show pmE pg X pg_tyl pg_cl (d + 5) 228 78 [.ref 147, .int x1, .int x2, .int x3, .int z24] [] (md wc f15 A16) _
              refine pe_goto (off := (-66)) (t := 12) (by decide +kernel) (by decide) rfl ?_
              exact ih f15 A16 z24 hIq14 (fun k n14 n15 n16 => ((hGq14 k n14 n15)).trans ((hG k n14 n15 n16))) (fun k n152 n153 => ((hFq14 k n152 n153)).trans ((hF k n152 n153))) (by omega) (by omega) (by omega)
            · skip
              refine pe_aload_n (j := 0) (by decide +kernel) rfl ?_
              refine pe_iload (j := 4) (by decide +kernel) rfl ?_
              refine mz_put16 (jj := 217) (by decide +kernel) (by decide +kernel) hc hIq14 (fun f25 ef25 hIf25 => ?_)
              refine pz_iinc (j := 4) (n := 1) (by decide +kernel) rfl rfl (by decide +kernel) (by omega) (by omega) (fun z26 hz26 => ?_)
              show pmE pg X pg_tyl pg_cl (d + 5) 228 78 [.ref 147, .int x1, .int x2, .int x3, .int z26] [] (md wc f25 A16) _
              refine pe_goto (off := (-66)) (t := 12) (by decide +kernel) (by decide) rfl ?_
              have hx27 : (f25 14).toInt = (f15 14).toInt := (congrArg Int32.toInt (show f25 14 = (f15 14) from upf_fr ef25 (by decide))).trans rfl
              exact ih f25 A16 z26 hIf25 (fun k n14 n15 n16 => (upf_fr ef25 n16).trans (((hGq14 k n14 n15)).trans ((hG k n14 n15 n16)))) (fun k n152 n153 => ((hFq14 k n152 n153)).trans ((hF k n152 n153))) (by omega) (by omega) (by omega)
set_option maxRecDepth 100000 in
set_option maxHeartbeats 8000000 in
theorem MM_228 {X : pm_X} {d : Nat} {wc : pm_W} {f : Nat → Int32} {A : Nat → List Int32} {x1 x2 x3 : Int32} (hc : wc.length = 147) (hI : MI f A) (gx1 : (610 ≤ x1.toInt ∧ x1.toInt ≤ 742 ∧ (x1.toInt - 610) % 132 = 0)) (gx2 : (0 ≤ x2.toInt ∧ x2.toInt ≤ 2)) : pmE pg X pg_tyl pg_cl (d + 5) 228 0 (pm_ent (pm_max pg 228) [.ref 147, .int x1, .int x2, .int x3]) [] (md wc f A) (fun q => ∃ (f' : Nat → Int32) (A' : Nat → List Int32) (r : Int32), q = (some (.int r), md wc f' A', 0, 0) ∧ MI f' A' ∧ (∀ k : Nat, k ≠ 14 → k ≠ 15 → k ≠ 16 → f' k = f k) ∧ (∀ k : Nat, k ≠ 152 → k ≠ 153 → A' k = A k) ∧ (((0 ≤ r.toInt ∧ r.toInt ≤ 30) ∧ True))) := by
  show pmE pg X pg_tyl pg_cl (d + 5) 228 0 [.ref 147, .int x1, .int x2, .int x3, pm_dead] [] (md wc f A) _
  refine pe_aload_n (j := 0) (by decide +kernel) rfl ?_
  refine pz_callV (j := 214) (mj := 229) (by decide +kernel) (cll_V (args := []) (n := 0) (by decide +kernel) rfl rfl (md_o hc) (by decide +kernel) (Nat.le_of_ble_eq_true rfl) (Nat.le_of_ble_eq_true rfl)) (MM_229 hc hI) (fun q1a q1b q1c q1d hqq1 => ?_)
  obtain ⟨f2, A3, eq1, hIq1, hGq1, hFq1, hX0q1, kq1⟩ := hqq1
  cases eq1
  refine ⟨rfl, rfl, ?_⟩
  have hr_14_f2 := hIq1.1 14
  simp only [MF] at hr_14_f2
  show pmE pg X pg_tyl pg_cl (d + 5) 228 4 [.ref 147, .int x1, .int x2, .int x3, pm_dead] [] (md wc f2 A3) _
  refine pe_aload_n (j := 0) (by decide +kernel) rfl ?_
  refine pe_iconstv (n := (-1)) (v := (-1)) (by decide +kernel) (by decide +kernel) ?_
  refine mz_put16 (jj := 217) (by decide +kernel) (by decide +kernel) hc hIq1 (fun f4 ef4 hIf4 => ?_)
  refine pe_iconstv (n := 0) (v := 0) (by decide +kernel) (by decide +kernel) ?_
  refine pe_istore (j := 4) (ls' := [.ref 147, .int x1, .int x2, .int x3, .int 0]) (by decide +kernel) (Nat.le_of_ble_eq_true rfl) rfl ?_
  have hx9 : (f4 14).toInt = (f2 14).toInt := (congrArg Int32.toInt (show f4 14 = (f2 14) from upf_fr ef4 (by decide))).trans rfl
  have hl10 := kz_0
  refine ML_228_12 hc (by omega) (by omega) (fun f5 A6 y8 hIy7 hGhIy7 hFhIy7 gy8 => ?_) 31 f4 A3 0 hIf4 (fun k _ _ _ => rfl) (fun k _ _ => rfl) (by decide +kernel) (by omega) (by decide +kernel)
  refine pe_iload (j := 4) (by decide +kernel) rfl ?_
  exact pe_iret (by decide +kernel) rfl rfl ⟨f5, A6, y8, rfl, hIy7, (fun k n14 n15 n16 => ((hGhIy7 k n14 n15 n16)).trans ((upf_fr ef4 n16).trans ((hGq1 k n14 n15)))), (fun k n152 n153 => ((hFhIy7 k n152 n153)).trans ((hFq1 k n152))), ⟨(by omega), trivial⟩⟩
set_option maxRecDepth 100000 in
set_option maxHeartbeats 8000000 in
theorem MM_246 {X : pm_X} {d : Nat} {wc : pm_W} {f : Nat → Int32} {A : Nat → List Int32} {x1 x2 x3 : Int32} (hc : wc.length = 147) (hI : MI f A) : pmE pg X pg_tyl pg_cl (d + 6) 246 0 (pm_ent (pm_max pg 246) [.ref 147, .int x1, .int x2, .int x3]) [] (md wc f A) (fun q => ∃ (f' : Nat → Int32) (A' : Nat → List Int32) (r : Int32), q = (some (.int r), md wc f' A', 0, 0) ∧ MI f' A' ∧ (∀ k : Nat, k ≠ 14 → k ≠ 15 → k ≠ 16 → f' k = f k) ∧ (∀ k : Nat, k ≠ 152 → k ≠ 153 → A' k = A k) ∧ ((r = 0 ∧ True) ∨ (r = 1 ∧ (0 ≤ x1.toInt ∧ x1.toInt ≤ 1) ∧ ((-1) ≤ x2.toInt ∧ x2.toInt ≤ 2) ∧ (0 ≤ x3.toInt ∧ x3.toInt ≤ 30)))) := by
  show pmE pg X pg_tyl pg_cl (d + 6) 246 0 [.ref 147, .int x1, .int x2, .int x3] [] (md wc f A) _
  refine pe_aload_n (j := 0) (by decide +kernel) rfl ?_
  refine pe_iconstv (n := 0) (v := 0) (by decide +kernel) (by decide +kernel) ?_
  refine pe_iload_n (j := 1) (by decide +kernel) rfl ?_
  refine pi_V (j := 153) (mj := 200) (by decide +kernel) (cll_V (args := [.int x1, .int 0]) (n := 2) (by decide +kernel) rfl rfl (md_o hc) (by decide +kernel) (Nat.le_of_ble_eq_true rfl) (Nat.le_of_ble_eq_true rfl)) ?_
  show pmE pg X pg_tyl pg_cl (d + 5) 200 0 [.ref 147, .int 0, .int x1] [] (md wc f A) _
  refine pe_iload_n (j := 2) (by decide +kernel) rfl ?_
  refine pe_iconstv (n := 0) (v := 0) (by decide +kernel) (by decide +kernel) ?_
  refine pe_aload_n (j := 0) (by decide +kernel) rfl ?_
  refine pe_get (j := 7) (ci := 12) (n := 0) (by decide +kernel) (by decide +kernel) (md_o hc) rfl ?_
  refine pe_iload_n (j := 1) (by decide +kernel) rfl ?_
  refine mz_ld148 (by decide +kernel) hc hI kz_0 (by omega) (by omega) (fun v1 ev1 pv1 => ?_)
  have rv1 : 0 ≤ v1.toInt ∧ v1.toInt ≤ 2 := MT_c0 pv1 (by omega)
  clear pv1
  refine pe_iconstv (n := 1) (v := 1) (by decide +kernel) (by decide +kernel) ?_
  refine pz_sub (by decide +kernel) rfl kz_1 (by omega) (by omega) (fun z2 hz2 => ?_)
  refine pi_S (j := 119) (mj := 199) (by decide +kernel) (by decide +kernel) rfl ?_
  show pmE pg X pg_tyl pg_cl (d + 4) 199 0 [.int x1, .int 0, .int z2] [] (md wc f A) _
  refine pe_iload_n (j := 0) (by decide +kernel) rfl ?_
  refine pe_iload_n (j := 1) (by decide +kernel) rfl ?_
  have lw4 := zi_lo x1
  have uw4 := zi_hi x1
  refine pz_icmp_lt (off := 12) (t := 14) (by decide +kernel) (by decide) rfl rfl kz_0 (fun h3 => ?_) (fun h3 => ?_)
  · skip
    refine pe_iconstv (n := 0) (v := 0) (by decide +kernel) (by decide +kernel) ?_
    refine pe_iret (by decide +kernel) rfl rfl ⟨rfl, rfl, ?_⟩
    show pmE pg X pg_tyl pg_cl (d + 5) 200 13 [.ref 147, .int 0, .int x1] [.int 0] (md wc f A) _
    refine pe_iret (by decide +kernel) rfl rfl ⟨rfl, rfl, ?_⟩
    show pmE pg X pg_tyl pg_cl (d + 6) 246 6 [.ref 147, .int x1, .int x2, .int x3] [.int 0] (md wc f A) _
    refine pz_if_eq (off := 21) (t := 27) (by decide +kernel) (by decide) rfl kz_0 (fun h5 => ?_) (fun h5 => by omega)
    refine pe_iconstv (n := 0) (v := 0) (by decide +kernel) (by decide +kernel) ?_
    exact pe_iret (by decide +kernel) rfl rfl ⟨f, A, 0, rfl, hI, (fun k n14 n15 n16 => rfl), (fun k n152 n153 => rfl), Or.inl ⟨rfl, trivial⟩⟩
  · skip
    refine pe_iload_n (j := 0) (by decide +kernel) rfl ?_
    refine pe_iload_n (j := 2) (by decide +kernel) rfl ?_
    refine pz_icmp_gt (off := 7) (t := 14) (by decide +kernel) (by decide) rfl rfl hz2 (fun h6 => ?_) (fun h6 => ?_)
    · skip
      refine pe_iconstv (n := 0) (v := 0) (by decide +kernel) (by decide +kernel) ?_
      refine pe_iret (by decide +kernel) rfl rfl ⟨rfl, rfl, ?_⟩
      show pmE pg X pg_tyl pg_cl (d + 5) 200 13 [.ref 147, .int 0, .int x1] [.int 0] (md wc f A) _
      refine pe_iret (by decide +kernel) rfl rfl ⟨rfl, rfl, ?_⟩
      show pmE pg X pg_tyl pg_cl (d + 6) 246 6 [.ref 147, .int x1, .int x2, .int x3] [.int 0] (md wc f A) _
      refine pz_if_eq (off := 21) (t := 27) (by decide +kernel) (by decide) rfl kz_0 (fun h7 => ?_) (fun h7 => by omega)
      refine pe_iconstv (n := 0) (v := 0) (by decide +kernel) (by decide +kernel) ?_
      exact pe_iret (by decide +kernel) rfl rfl ⟨f, A, 0, rfl, hI, (fun k n14 n15 n16 => rfl), (fun k n152 n153 => rfl), Or.inl ⟨rfl, trivial⟩⟩
    · skip
      refine pe_iconstv (n := 1) (v := 1) (by decide +kernel) (by decide +kernel) ?_
      refine pe_goto (off := 4) (t := 15) (by decide +kernel) (by decide) rfl ?_
      refine pe_iret (by decide +kernel) rfl rfl ⟨rfl, rfl, ?_⟩
      show pmE pg X pg_tyl pg_cl (d + 5) 200 13 [.ref 147, .int 0, .int x1] [.int 1] (md wc f A) _
      refine pe_iret (by decide +kernel) rfl rfl ⟨rfl, rfl, ?_⟩
      show pmE pg X pg_tyl pg_cl (d + 6) 246 6 [.ref 147, .int x1, .int x2, .int x3] [.int 1] (md wc f A) _
      refine pz_if_eq (off := 21) (t := 27) (by decide +kernel) (by decide) rfl kz_1 (fun h8 => by omega) (fun h8 => ?_)
      refine pe_iload_n (j := 3) (by decide +kernel) rfl ?_
      have lw10 := zi_lo x3
      have uw10 := zi_hi x3
      refine pz_if_lt (off := 17) (t := 27) (by decide +kernel) (by decide) rfl rfl (fun h9 => ?_) (fun h9 => ?_)
      · skip
        refine pe_iconstv (n := 0) (v := 0) (by decide +kernel) (by decide +kernel) ?_
        exact pe_iret (by decide +kernel) rfl rfl ⟨f, A, 0, rfl, hI, (fun k n14 n15 n16 => rfl), (fun k n152 n153 => rfl), Or.inl ⟨rfl, trivial⟩⟩
      · skip
        refine pe_iload_n (j := 2) (by decide +kernel) rfl ?_
        refine pe_iconstv (n := (-1)) (v := (-1)) (by decide +kernel) (by decide +kernel) ?_
        have lw12 := zi_lo x2
        have uw12 := zi_hi x2
        refine pz_icmp_eq (off := 14) (t := 29) (by decide +kernel) (by decide) rfl rfl kz_m1 (fun h11 => ?_) (fun h11 => ?_)
        · skip
          refine pe_aload_n (j := 0) (by decide +kernel) rfl ?_
          refine pz_callV (j := 214) (mj := 229) (by decide +kernel) (cll_V (args := []) (n := 0) (by decide +kernel) rfl rfl (md_o hc) (by decide +kernel) (Nat.le_of_ble_eq_true rfl) (Nat.le_of_ble_eq_true rfl)) (MM_229 hc hI) (fun q13a q13b q13c q13d hqq13 => ?_)
          obtain ⟨f14, A15, eq13, hIq13, hGq13, hFq13, hX0q13, kq13⟩ := hqq13
          cases eq13
          refine ⟨rfl, rfl, ?_⟩
          have hr_14_f14 := hIq13.1 14
          simp only [MF] at hr_14_f14
          show pmE pg X pg_tyl pg_cl (d + 6) 246 33 [.ref 147, .int x1, .int x2, .int x3] [] (md wc f14 A15) _
          refine pe_iload_n (j := 2) (by decide +kernel) rfl ?_
          refine pe_iconstv (n := (-1)) (v := (-1)) (by decide +kernel) (by decide +kernel) ?_
          refine pz_icmp_ne (off := 15) (t := 50) (by decide +kernel) (by decide) rfl rfl kz_m1 (fun h16 => by omega) (fun h16 => ?_)
          refine pe_iload_n (j := 3) (by decide +kernel) rfl ?_
          refine pz_if_ne (off := 7) (t := 46) (by decide +kernel) (by decide) rfl rfl (fun h17 => ?_) (fun h17 => ?_)
          · skip
            refine pe_iconstv (n := 0) (v := 0) (by decide +kernel) (by decide +kernel) ?_
            refine pe_goto (off := 23) (t := 70) (by decide +kernel) (by decide) rfl ?_
            exact pe_iret (by decide +kernel) rfl rfl ⟨f14, A15, 0, rfl, hIq13, (fun k n14 n15 n16 => (hGq13 k n14 n15)), (fun k n152 n153 => (hFq13 k n152)), Or.inl ⟨rfl, trivial⟩⟩
          · skip
            refine pe_iconstv (n := 1) (v := 1) (by decide +kernel) (by decide +kernel) ?_
            refine pe_goto (off := 27) (t := 70) (by decide +kernel) (by decide) rfl ?_
            exact pe_iret (by decide +kernel) rfl rfl ⟨f14, A15, 1, rfl, hIq13, (fun k n14 n15 n16 => (hGq13 k n14 n15)), (fun k n152 n153 => (hFq13 k n152)), Or.inr (⟨rfl, (by omega)⟩)⟩
        · skip
          refine pe_aload_n (j := 0) (by decide +kernel) rfl ?_
          refine pe_iconstv (n := 1) (v := 1) (by decide +kernel) (by decide +kernel) ?_
          refine pe_iload_n (j := 2) (by decide +kernel) rfl ?_
          refine pi_V (j := 153) (mj := 200) (by decide +kernel) (cll_V (args := [.int x2, .int 1]) (n := 2) (by decide +kernel) rfl rfl (md_o hc) (by decide +kernel) (Nat.le_of_ble_eq_true rfl) (Nat.le_of_ble_eq_true rfl)) ?_
          show pmE pg X pg_tyl pg_cl (d + 5) 200 0 [.ref 147, .int 1, .int x2] [] (md wc f A) _
          refine pe_iload_n (j := 2) (by decide +kernel) rfl ?_
          refine pe_iconstv (n := 0) (v := 0) (by decide +kernel) (by decide +kernel) ?_
          refine pe_aload_n (j := 0) (by decide +kernel) rfl ?_
          refine pe_get (j := 7) (ci := 12) (n := 0) (by decide +kernel) (by decide +kernel) (md_o hc) rfl ?_
          refine pe_iload_n (j := 1) (by decide +kernel) rfl ?_
          refine mz_ld148 (by decide +kernel) hc hI kz_1 (by omega) (by omega) (fun v18 ev18 pv18 => ?_)
          have rv18 : 0 ≤ v18.toInt ∧ v18.toInt ≤ 3 := MT_c1 pv18 (by omega)
          clear pv18
          refine pe_iconstv (n := 1) (v := 1) (by decide +kernel) (by decide +kernel) ?_
          refine pz_sub (by decide +kernel) rfl kz_1 (by omega) (by omega) (fun z19 hz19 => ?_)
          refine pi_S (j := 119) (mj := 199) (by decide +kernel) (by decide +kernel) rfl ?_
          show pmE pg X pg_tyl pg_cl (d + 4) 199 0 [.int x2, .int 0, .int z19] [] (md wc f A) _
          refine pe_iload_n (j := 0) (by decide +kernel) rfl ?_
          refine pe_iload_n (j := 1) (by decide +kernel) rfl ?_
          refine pz_icmp_lt (off := 12) (t := 14) (by decide +kernel) (by decide) rfl rfl kz_0 (fun h20 => ?_) (fun h20 => ?_)
          · skip
            refine pe_iconstv (n := 0) (v := 0) (by decide +kernel) (by decide +kernel) ?_
            refine pe_iret (by decide +kernel) rfl rfl ⟨rfl, rfl, ?_⟩
            show pmE pg X pg_tyl pg_cl (d + 5) 200 13 [.ref 147, .int 1, .int x2] [.int 0] (md wc f A) _
            refine pe_iret (by decide +kernel) rfl rfl ⟨rfl, rfl, ?_⟩
            show pmE pg X pg_tyl pg_cl (d + 6) 246 24 [.ref 147, .int x1, .int x2, .int x3] [.int 0] (md wc f A) _
            refine pz_if_ne (off := 5) (t := 29) (by decide +kernel) (by decide) rfl kz_0 (fun h21 => by omega) (fun h21 => ?_)
            refine pe_iconstv (n := 0) (v := 0) (by decide +kernel) (by decide +kernel) ?_
            exact pe_iret (by decide +kernel) rfl rfl ⟨f, A, 0, rfl, hI, (fun k n14 n15 n16 => rfl), (fun k n152 n153 => rfl), Or.inl ⟨rfl, trivial⟩⟩
          · skip
            refine pe_iload_n (j := 0) (by decide +kernel) rfl ?_
            refine pe_iload_n (j := 2) (by decide +kernel) rfl ?_
            refine pz_icmp_gt (off := 7) (t := 14) (by decide +kernel) (by decide) rfl rfl hz19 (fun h22 => ?_) (fun h22 => ?_)
            · skip
              refine pe_iconstv (n := 0) (v := 0) (by decide +kernel) (by decide +kernel) ?_
              refine pe_iret (by decide +kernel) rfl rfl ⟨rfl, rfl, ?_⟩
              show pmE pg X pg_tyl pg_cl (d + 5) 200 13 [.ref 147, .int 1, .int x2] [.int 0] (md wc f A) _
              refine pe_iret (by decide +kernel) rfl rfl ⟨rfl, rfl, ?_⟩
              show pmE pg X pg_tyl pg_cl (d + 6) 246 24 [.ref 147, .int x1, .int x2, .int x3] [.int 0] (md wc f A) _
              refine pz_if_ne (off := 5) (t := 29) (by decide +kernel) (by decide) rfl kz_0 (fun h23 => by omega) (fun h23 => ?_)
              refine pe_iconstv (n := 0) (v := 0) (by decide +kernel) (by decide +kernel) ?_
              exact pe_iret (by decide +kernel) rfl rfl ⟨f, A, 0, rfl, hI, (fun k n14 n15 n16 => rfl), (fun k n152 n153 => rfl), Or.inl ⟨rfl, trivial⟩⟩
            · skip
              refine pe_iconstv (n := 1) (v := 1) (by decide +kernel) (by decide +kernel) ?_
              refine pe_goto (off := 4) (t := 15) (by decide +kernel) (by decide) rfl ?_
              refine pe_iret (by decide +kernel) rfl rfl ⟨rfl, rfl, ?_⟩
              show pmE pg X pg_tyl pg_cl (d + 5) 200 13 [.ref 147, .int 1, .int x2] [.int 1] (md wc f A) _
              refine pe_iret (by decide +kernel) rfl rfl ⟨rfl, rfl, ?_⟩
              show pmE pg X pg_tyl pg_cl (d + 6) 246 24 [.ref 147, .int x1, .int x2, .int x3] [.int 1] (md wc f A) _
              refine pz_if_ne (off := 5) (t := 29) (by decide +kernel) (by decide) rfl kz_1 (fun h24 => ?_) (fun h24 => by omega)
              refine pe_aload_n (j := 0) (by decide +kernel) rfl ?_
              refine pz_callV (j := 214) (mj := 229) (by decide +kernel) (cll_V (args := []) (n := 0) (by decide +kernel) rfl rfl (md_o hc) (by decide +kernel) (Nat.le_of_ble_eq_true rfl) (Nat.le_of_ble_eq_true rfl)) (MM_229 hc hI) (fun q25a q25b q25c q25d hqq25 => ?_)
              obtain ⟨f26, A27, eq25, hIq25, hGq25, hFq25, hX0q25, kq25⟩ := hqq25
              cases eq25
              refine ⟨rfl, rfl, ?_⟩
              have hr_14_f26 := hIq25.1 14
              simp only [MF] at hr_14_f26
              show pmE pg X pg_tyl pg_cl (d + 6) 246 33 [.ref 147, .int x1, .int x2, .int x3] [] (md wc f26 A27) _
              refine pe_iload_n (j := 2) (by decide +kernel) rfl ?_
              refine pe_iconstv (n := (-1)) (v := (-1)) (by decide +kernel) (by decide +kernel) ?_
              refine pz_icmp_ne (off := 15) (t := 50) (by decide +kernel) (by decide) rfl rfl kz_m1 (fun h28 => ?_) (fun h28 => by omega)
              refine pe_aload_n (j := 0) (by decide +kernel) rfl ?_
              refine pe_iconstv (n := 0) (v := 0) (by decide +kernel) (by decide +kernel) ?_
              refine pe_iload_n (j := 1) (by decide +kernel) rfl ?_
              refine pi_S (j := 163) (mj := 217) (by decide +kernel) (by decide +kernel) rfl ?_
              show pmE pg X pg_tyl pg_cl (d + 5) 217 0 [.int 0, .int x1] [] (md wc f26 A27) _
              refine pe_iload_n (j := 0) (by decide +kernel) rfl ?_
              refine pz_if_ne (off := 15) (t := 16) (by decide +kernel) (by decide) rfl kz_0 (fun h29 => by omega) (fun h29 => ?_)
              refine pe_sipushv (n := 610) (v := 610) (by decide +kernel) (by decide +kernel) ?_
              refine pe_sipushv (n := 132) (v := 132) (by decide +kernel) (by decide +kernel) ?_
              refine pe_iload_n (j := 1) (by decide +kernel) rfl ?_
              refine pz_mul (by decide +kernel) kz_132 rfl (by omega) (by omega) (fun z30 hz30 => ?_)
              refine pz_add (by decide +kernel) kz_610 hz30 (by omega) (by omega) (fun z31 hz31 => ?_)
              clear hz30
              refine pe_goto (off := 12) (t := 25) (by decide +kernel) (by decide) rfl ?_
              refine pe_iret (by decide +kernel) rfl rfl ⟨rfl, rfl, ?_⟩
              show pmE pg X pg_tyl pg_cl (d + 6) 246 56 [.ref 147, .int x1, .int x2, .int x3] [.int z31, .ref 147] (md wc f26 A27) _
              refine pe_iload_n (j := 2) (by decide +kernel) rfl ?_
              refine pe_iload_n (j := 3) (by decide +kernel) rfl ?_
              refine pz_callV (j := 226) (mj := 228) (by decide +kernel) (cll_V (args := [.int x3, .int x2, .int z31]) (n := 3) (by decide +kernel) rfl rfl (md_o hc) (by decide +kernel) (Nat.le_of_ble_eq_true rfl) (Nat.le_of_ble_eq_true rfl)) (MM_228 hc hIq25 (by omega) (by omega)) (fun q32a q32b q32c q32d hqq32 => ?_)
              obtain ⟨f33, A34, rq32, eq32, hIq32, hGq32, hFq32, kq32⟩ := hqq32
              cases eq32
              refine ⟨rfl, rfl, ?_⟩
              show pmE pg X pg_tyl pg_cl (d + 6) 246 61 [.ref 147, .int x1, .int x2, .int x3] [.int rq32] (md wc f33 A34) _
              refine pe_iload_n (j := 3) (by decide +kernel) rfl ?_
              refine pz_icmp_ne (off := 7) (t := 69) (by decide +kernel) (by decide) rfl rfl rfl (fun h35 => ?_) (fun h35 => ?_)
              · skip
                refine pe_iconstv (n := 0) (v := 0) (by decide +kernel) (by decide +kernel) ?_
                exact pe_iret (by decide +kernel) rfl rfl ⟨f33, A34, 0, rfl, hIq32, (fun k n14 n15 n16 => ((hGq32 k n14 n15 n16)).trans ((hGq25 k n14 n15))), (fun k n152 n153 => ((hFq32 k n152 n153)).trans ((hFq25 k n152))), Or.inl ⟨rfl, trivial⟩⟩
              · skip
                refine pe_iconstv (n := 1) (v := 1) (by decide +kernel) (by decide +kernel) ?_
                refine pe_goto (off := 4) (t := 70) (by decide +kernel) (by decide) rfl ?_
                exact pe_iret (by decide +kernel) rfl rfl ⟨f33, A34, 1, rfl, hIq32, (fun k n14 n15 n16 => ((hGq32 k n14 n15 n16)).trans ((hGq25 k n14 n15))), (fun k n152 n153 => ((hFq32 k n152 n153)).trans ((hFq25 k n152))), Or.inr (⟨rfl, (by omega)⟩)⟩
set_option maxRecDepth 100000 in
set_option maxHeartbeats 8000000 in
theorem MM_245 {X : pm_X} {d : Nat} {wc : pm_W} {f : Nat → Int32} {A : Nat → List Int32} {x1 x2 x3 x4 x5 : Int32} (hc : wc.length = 147) (hI : MI f A) : pmE pg X pg_tyl pg_cl (d + 7) 245 0 (pm_ent (pm_max pg 245) [.ref 147, .int x1, .int x2, .int x3, .int x4, .int x5]) [] (md wc f A) (fun q => ∃ (f' : Nat → Int32) (A' : Nat → List Int32) (r : Int32), q = (some (.int r), md wc f' A', 0, 0) ∧ MI f' A' ∧ (∀ k : Nat, k ≠ 14 → k ≠ 15 → k ≠ 16 → f' k = f k) ∧ (∀ k : Nat, k ≠ 152 → k ≠ 153 → A' k = A k) ∧ ((r = 0 ∧ True) ∨ (r = 1 ∧ (0 ≤ x1.toInt ∧ x1.toInt ≤ 1) ∧ ((-1) ≤ x2.toInt ∧ x2.toInt ≤ 2) ∧ (0 ≤ x3.toInt ∧ x3.toInt ≤ 30) ∧ (0 ≤ x4.toInt ∧ x4.toInt ≤ 8) ∧ (0 ≤ x5.toInt ∧ x5.toInt ≤ 8)))) := by
  show pmE pg X pg_tyl pg_cl (d + 7) 245 0 [.ref 147, .int x1, .int x2, .int x3, .int x4, .int x5] [] (md wc f A) _
  refine pe_aload_n (j := 0) (by decide +kernel) rfl ?_
  refine pe_iload_n (j := 1) (by decide +kernel) rfl ?_
  refine pe_iload_n (j := 2) (by decide +kernel) rfl ?_
  refine pe_iload_n (j := 3) (by decide +kernel) rfl ?_
  refine pz_callV (j := 232) (mj := 246) (by decide +kernel) (cll_V (args := [.int x3, .int x2, .int x1]) (n := 3) (by decide +kernel) rfl rfl (md_o hc) (by decide +kernel) (Nat.le_of_ble_eq_true rfl) (Nat.le_of_ble_eq_true rfl)) (MM_246 hc hI) (fun q1a q1b q1c q1d hqq1 => ?_)
  obtain ⟨f2, A3, rq1, eq1, hIq1, hGq1, hFq1, kq1⟩ := hqq1
  cases eq1
  refine ⟨rfl, rfl, ?_⟩
  rcases kq1 with kq1 | kq1
  · skip
    obtain ⟨erq1, kq1⟩ := kq1
    subst erq1
    show pmE pg X pg_tyl pg_cl (d + 7) 245 7 [.ref 147, .int x1, .int x2, .int x3, .int x4, .int x5] [.int 0] (md wc f2 A3) _
    refine pz_if_eq (off := 35) (t := 42) (by decide +kernel) (by decide) rfl kz_0 (fun h4 => ?_) (fun h4 => by omega)
    refine pe_iconstv (n := 0) (v := 0) (by decide +kernel) (by decide +kernel) ?_
    exact pe_iret (by decide +kernel) rfl rfl ⟨f2, A3, 0, rfl, hIq1, (fun k n14 n15 n16 => (hGq1 k n14 n15 n16)), (fun k n152 n153 => (hFq1 k n152 n153)), Or.inl ⟨rfl, trivial⟩⟩
  · skip
    obtain ⟨erq1, kq1⟩ := kq1
    subst erq1
    show pmE pg X pg_tyl pg_cl (d + 7) 245 7 [.ref 147, .int x1, .int x2, .int x3, .int x4, .int x5] [.int 1] (md wc f2 A3) _
    refine pz_if_eq (off := 35) (t := 42) (by decide +kernel) (by decide) rfl kz_1 (fun h5 => by omega) (fun h5 => ?_)
    refine pe_aload_n (j := 0) (by decide +kernel) rfl ?_
    refine pe_iconstv (n := 0) (v := 0) (by decide +kernel) (by decide +kernel) ?_
    refine pe_iload_n (j := 1) (by decide +kernel) rfl ?_
    refine pi_S (j := 163) (mj := 217) (by decide +kernel) (by decide +kernel) rfl ?_
    show pmE pg X pg_tyl pg_cl (d + 6) 217 0 [.int 0, .int x1] [] (md wc f2 A3) _
    refine pe_iload_n (j := 0) (by decide +kernel) rfl ?_
    refine pz_if_ne (off := 15) (t := 16) (by decide +kernel) (by decide) rfl kz_0 (fun h6 => by omega) (fun h6 => ?_)
    refine pe_sipushv (n := 610) (v := 610) (by decide +kernel) (by decide +kernel) ?_
    refine pe_sipushv (n := 132) (v := 132) (by decide +kernel) (by decide +kernel) ?_
    refine pe_iload_n (j := 1) (by decide +kernel) rfl ?_
    refine pz_mul (by decide +kernel) kz_132 rfl (by omega) (by omega) (fun z7 hz7 => ?_)
    refine pz_add (by decide +kernel) kz_610 hz7 (by omega) (by omega) (fun z8 hz8 => ?_)
    clear hz7
    refine pe_goto (off := 12) (t := 25) (by decide +kernel) (by decide) rfl ?_
    refine pe_iret (by decide +kernel) rfl rfl ⟨rfl, rfl, ?_⟩
    show pmE pg X pg_tyl pg_cl (d + 7) 245 16 [.ref 147, .int x1, .int x2, .int x3, .int x4, .int x5] [.int z8, .ref 147] (md wc f2 A3) _
    refine pe_iload (j := 4) (by decide +kernel) rfl ?_
    refine pi_V (j := 166) (mj := 221) (by decide +kernel) (cll_V (args := [.int x4, .int z8]) (n := 2) (by decide +kernel) rfl rfl (md_o hc) (by decide +kernel) (Nat.le_of_ble_eq_true rfl) (Nat.le_of_ble_eq_true rfl)) ?_
    show pmE pg X pg_tyl pg_cl (d + 6) 221 0 [.ref 147, .int z8, .int x4] [] (md wc f2 A3) _
    refine pe_iload_n (j := 2) (by decide +kernel) rfl ?_
    refine pe_iconstv (n := 0) (v := 0) (by decide +kernel) (by decide +kernel) ?_
    refine pe_aload_n (j := 0) (by decide +kernel) rfl ?_
    refine pe_get (j := 7) (ci := 12) (n := 0) (by decide +kernel) (by decide +kernel) (md_o hc) rfl ?_
    refine pe_iload_n (j := 1) (by decide +kernel) rfl ?_
    refine mz_ld148 (by decide +kernel) hc hIq1 hz8 (by omega) (by omega) (fun v9 ev9 pv9 => ?_)
    rw [show A3 148 = A 148 from (hFq1 148 (by decide) (by decide))] at ev9
    have rv9 : 0 ≤ v9.toInt ∧ v9.toInt ≤ 9 := MT_people pv9 (by omega)
    clear pv9
    refine pe_iconstv (n := 1) (v := 1) (by decide +kernel) (by decide +kernel) ?_
    refine pz_sub (by decide +kernel) rfl kz_1 (by omega) (by omega) (fun z10 hz10 => ?_)
    refine pi_S (j := 119) (mj := 199) (by decide +kernel) (by decide +kernel) rfl ?_
    show pmE pg X pg_tyl pg_cl (d + 5) 199 0 [.int x4, .int 0, .int z10] [] (md wc f2 A3) _
    refine pe_iload_n (j := 0) (by decide +kernel) rfl ?_
    refine pe_iload_n (j := 1) (by decide +kernel) rfl ?_
    have lw12 := zi_lo x4
    have uw12 := zi_hi x4
    refine pz_icmp_lt (off := 12) (t := 14) (by decide +kernel) (by decide) rfl rfl kz_0 (fun h11 => ?_) (fun h11 => ?_)
    · skip
      refine pe_iconstv (n := 0) (v := 0) (by decide +kernel) (by decide +kernel) ?_
      refine pe_iret (by decide +kernel) rfl rfl ⟨rfl, rfl, ?_⟩
      show pmE pg X pg_tyl pg_cl (d + 6) 221 13 [.ref 147, .int z8, .int x4] [.int 0] (md wc f2 A3) _
      refine pe_iret (by decide +kernel) rfl rfl ⟨rfl, rfl, ?_⟩
      show pmE pg X pg_tyl pg_cl (d + 7) 245 21 [.ref 147, .int x1, .int x2, .int x3, .int x4, .int x5] [.int 0] (md wc f2 A3) _
      refine pz_if_eq (off := 21) (t := 42) (by decide +kernel) (by decide) rfl kz_0 (fun h13 => ?_) (fun h13 => by omega)
      refine pe_iconstv (n := 0) (v := 0) (by decide +kernel) (by decide +kernel) ?_
      exact pe_iret (by decide +kernel) rfl rfl ⟨f2, A3, 0, rfl, hIq1, (fun k n14 n15 n16 => (hGq1 k n14 n15 n16)), (fun k n152 n153 => (hFq1 k n152 n153)), Or.inl ⟨rfl, trivial⟩⟩
    · skip
      refine pe_iload_n (j := 0) (by decide +kernel) rfl ?_
      refine pe_iload_n (j := 2) (by decide +kernel) rfl ?_
      refine pz_icmp_gt (off := 7) (t := 14) (by decide +kernel) (by decide) rfl rfl hz10 (fun h14 => ?_) (fun h14 => ?_)
      · skip
        refine pe_iconstv (n := 0) (v := 0) (by decide +kernel) (by decide +kernel) ?_
        refine pe_iret (by decide +kernel) rfl rfl ⟨rfl, rfl, ?_⟩
        show pmE pg X pg_tyl pg_cl (d + 6) 221 13 [.ref 147, .int z8, .int x4] [.int 0] (md wc f2 A3) _
        refine pe_iret (by decide +kernel) rfl rfl ⟨rfl, rfl, ?_⟩
        show pmE pg X pg_tyl pg_cl (d + 7) 245 21 [.ref 147, .int x1, .int x2, .int x3, .int x4, .int x5] [.int 0] (md wc f2 A3) _
        refine pz_if_eq (off := 21) (t := 42) (by decide +kernel) (by decide) rfl kz_0 (fun h15 => ?_) (fun h15 => by omega)
        refine pe_iconstv (n := 0) (v := 0) (by decide +kernel) (by decide +kernel) ?_
        exact pe_iret (by decide +kernel) rfl rfl ⟨f2, A3, 0, rfl, hIq1, (fun k n14 n15 n16 => (hGq1 k n14 n15 n16)), (fun k n152 n153 => (hFq1 k n152 n153)), Or.inl ⟨rfl, trivial⟩⟩
      · skip
        refine pe_iconstv (n := 1) (v := 1) (by decide +kernel) (by decide +kernel) ?_
        refine pe_goto (off := 4) (t := 15) (by decide +kernel) (by decide) rfl ?_
        refine pe_iret (by decide +kernel) rfl rfl ⟨rfl, rfl, ?_⟩
        show pmE pg X pg_tyl pg_cl (d + 6) 221 13 [.ref 147, .int z8, .int x4] [.int 1] (md wc f2 A3) _
        refine pe_iret (by decide +kernel) rfl rfl ⟨rfl, rfl, ?_⟩
        show pmE pg X pg_tyl pg_cl (d + 7) 245 21 [.ref 147, .int x1, .int x2, .int x3, .int x4, .int x5] [.int 1] (md wc f2 A3) _
        refine pz_if_eq (off := 21) (t := 42) (by decide +kernel) (by decide) rfl kz_1 (fun h16 => by omega) (fun h16 => ?_)
        refine pe_aload_n (j := 0) (by decide +kernel) rfl ?_
        refine pe_iconstv (n := 0) (v := 0) (by decide +kernel) (by decide +kernel) ?_
        refine pe_iload_n (j := 1) (by decide +kernel) rfl ?_
        refine pi_S (j := 163) (mj := 217) (by decide +kernel) (by decide +kernel) rfl ?_
        show pmE pg X pg_tyl pg_cl (d + 6) 217 0 [.int 0, .int x1] [] (md wc f2 A3) _
        refine pe_iload_n (j := 0) (by decide +kernel) rfl ?_
        refine pz_if_ne (off := 15) (t := 16) (by decide +kernel) (by decide) rfl kz_0 (fun h17 => by omega) (fun h17 => ?_)
        refine pe_sipushv (n := 610) (v := 610) (by decide +kernel) (by decide +kernel) ?_
        refine pe_sipushv (n := 132) (v := 132) (by decide +kernel) (by decide +kernel) ?_
        refine pe_iload_n (j := 1) (by decide +kernel) rfl ?_
        refine pz_mul (by decide +kernel) kz_132 rfl (by omega) (by omega) (fun z18 hz18 => ?_)
        refine pz_add (by decide +kernel) kz_610 hz18 (by omega) (by omega) (fun z19 hz19 => ?_)
        clear hz18
        refine pe_goto (off := 12) (t := 25) (by decide +kernel) (by decide) rfl ?_
        refine pe_iret (by decide +kernel) rfl rfl ⟨rfl, rfl, ?_⟩
        show pmE pg X pg_tyl pg_cl (d + 7) 245 30 [.ref 147, .int x1, .int x2, .int x3, .int x4, .int x5] [.int z19, .ref 147] (md wc f2 A3) _
        refine pe_iload (j := 5) (by decide +kernel) rfl ?_
        refine pi_V (j := 166) (mj := 221) (by decide +kernel) (cll_V (args := [.int x5, .int z19]) (n := 2) (by decide +kernel) rfl rfl (md_o hc) (by decide +kernel) (Nat.le_of_ble_eq_true rfl) (Nat.le_of_ble_eq_true rfl)) ?_
        show pmE pg X pg_tyl pg_cl (d + 6) 221 0 [.ref 147, .int z19, .int x5] [] (md wc f2 A3) _
        refine pe_iload_n (j := 2) (by decide +kernel) rfl ?_
        refine pe_iconstv (n := 0) (v := 0) (by decide +kernel) (by decide +kernel) ?_
        refine pe_aload_n (j := 0) (by decide +kernel) rfl ?_
        refine pe_get (j := 7) (ci := 12) (n := 0) (by decide +kernel) (by decide +kernel) (md_o hc) rfl ?_
        refine pe_iload_n (j := 1) (by decide +kernel) rfl ?_
        refine mz_ld148 (by decide +kernel) hc hIq1 hz19 (by omega) (by omega) (fun v20 ev20 pv20 => ?_)
        rw [show A3 148 = A 148 from (hFq1 148 (by decide) (by decide))] at ev20
        rw [ev20.trans ev9.symm]
        clear pv20 ev20 v20
        refine pe_iconstv (n := 1) (v := 1) (by decide +kernel) (by decide +kernel) ?_
        refine pz_sub (by decide +kernel) rfl kz_1 (by omega) (by omega) (fun z21 hz21 => ?_)
        refine pi_S (j := 119) (mj := 199) (by decide +kernel) (by decide +kernel) rfl ?_
        show pmE pg X pg_tyl pg_cl (d + 5) 199 0 [.int x5, .int 0, .int z21] [] (md wc f2 A3) _
        refine pe_iload_n (j := 0) (by decide +kernel) rfl ?_
        refine pe_iload_n (j := 1) (by decide +kernel) rfl ?_
        have lw23 := zi_lo x5
        have uw23 := zi_hi x5
        refine pz_icmp_lt (off := 12) (t := 14) (by decide +kernel) (by decide) rfl rfl kz_0 (fun h22 => ?_) (fun h22 => ?_)
        · skip
          refine pe_iconstv (n := 0) (v := 0) (by decide +kernel) (by decide +kernel) ?_
          refine pe_iret (by decide +kernel) rfl rfl ⟨rfl, rfl, ?_⟩
          show pmE pg X pg_tyl pg_cl (d + 6) 221 13 [.ref 147, .int z19, .int x5] [.int 0] (md wc f2 A3) _
          refine pe_iret (by decide +kernel) rfl rfl ⟨rfl, rfl, ?_⟩
          show pmE pg X pg_tyl pg_cl (d + 7) 245 35 [.ref 147, .int x1, .int x2, .int x3, .int x4, .int x5] [.int 0] (md wc f2 A3) _
          refine pz_if_eq (off := 7) (t := 42) (by decide +kernel) (by decide) rfl kz_0 (fun h24 => ?_) (fun h24 => by omega)
          refine pe_iconstv (n := 0) (v := 0) (by decide +kernel) (by decide +kernel) ?_
          exact pe_iret (by decide +kernel) rfl rfl ⟨f2, A3, 0, rfl, hIq1, (fun k n14 n15 n16 => (hGq1 k n14 n15 n16)), (fun k n152 n153 => (hFq1 k n152 n153)), Or.inl ⟨rfl, trivial⟩⟩
        · skip
          refine pe_iload_n (j := 0) (by decide +kernel) rfl ?_
          refine pe_iload_n (j := 2) (by decide +kernel) rfl ?_
          refine pz_icmp_gt (off := 7) (t := 14) (by decide +kernel) (by decide) rfl rfl hz21 (fun h25 => ?_) (fun h25 => ?_)
          · skip
            refine pe_iconstv (n := 0) (v := 0) (by decide +kernel) (by decide +kernel) ?_
            refine pe_iret (by decide +kernel) rfl rfl ⟨rfl, rfl, ?_⟩
            show pmE pg X pg_tyl pg_cl (d + 6) 221 13 [.ref 147, .int z19, .int x5] [.int 0] (md wc f2 A3) _
            refine pe_iret (by decide +kernel) rfl rfl ⟨rfl, rfl, ?_⟩
            show pmE pg X pg_tyl pg_cl (d + 7) 245 35 [.ref 147, .int x1, .int x2, .int x3, .int x4, .int x5] [.int 0] (md wc f2 A3) _
            refine pz_if_eq (off := 7) (t := 42) (by decide +kernel) (by decide) rfl kz_0 (fun h26 => ?_) (fun h26 => by omega)
            refine pe_iconstv (n := 0) (v := 0) (by decide +kernel) (by decide +kernel) ?_
            exact pe_iret (by decide +kernel) rfl rfl ⟨f2, A3, 0, rfl, hIq1, (fun k n14 n15 n16 => (hGq1 k n14 n15 n16)), (fun k n152 n153 => (hFq1 k n152 n153)), Or.inl ⟨rfl, trivial⟩⟩
          · skip
            refine pe_iconstv (n := 1) (v := 1) (by decide +kernel) (by decide +kernel) ?_
            refine pe_goto (off := 4) (t := 15) (by decide +kernel) (by decide) rfl ?_
            refine pe_iret (by decide +kernel) rfl rfl ⟨rfl, rfl, ?_⟩
            show pmE pg X pg_tyl pg_cl (d + 6) 221 13 [.ref 147, .int z19, .int x5] [.int 1] (md wc f2 A3) _
            refine pe_iret (by decide +kernel) rfl rfl ⟨rfl, rfl, ?_⟩
            show pmE pg X pg_tyl pg_cl (d + 7) 245 35 [.ref 147, .int x1, .int x2, .int x3, .int x4, .int x5] [.int 1] (md wc f2 A3) _
            refine pz_if_eq (off := 7) (t := 42) (by decide +kernel) (by decide) rfl kz_1 (fun h27 => by omega) (fun h27 => ?_)
            refine pe_iconstv (n := 1) (v := 1) (by decide +kernel) (by decide +kernel) ?_
            refine pe_goto (off := 4) (t := 43) (by decide +kernel) (by decide) rfl ?_
            exact pe_iret (by decide +kernel) rfl rfl ⟨f2, A3, 1, rfl, hIq1, (fun k n14 n15 n16 => (hGq1 k n14 n15 n16)), (fun k n152 n153 => (hFq1 k n152 n153)), Or.inr (⟨rfl, (by omega)⟩)⟩
end
section
set_option maxRecDepth 100000 in
set_option maxHeartbeats 8000000 in
theorem MM_265 {X : pm_X} {d : Nat} {wc : pm_W} {f : Nat → Int32} {A : Nat → List Int32} {x1 x2 x3 x4 : Int32} (hc : wc.length = 147) (hI : MI f A) : pmE pg X pg_tyl pg_cl (d + 7) 265 0 (pm_ent (pm_max pg 265) [.ref 147, .int x1, .int x2, .int x3, .int x4]) [] (md wc f A) (fun q => ∃ (f' : Nat → Int32) (A' : Nat → List Int32) (r : Int32), q = (some (.int r), md wc f' A', 0, 0) ∧ MI f' A' ∧ (∀ k : Nat, k ≠ 14 → k ≠ 15 → k ≠ 16 → f' k = f k) ∧ (∀ k : Nat, k ≠ 152 → k ≠ 153 → A' k = A k) ∧ ((r = 0 ∧ True) ∨ (r = 1 ∧ (0 ≤ x1.toInt ∧ x1.toInt ≤ 1) ∧ ((-1) ≤ x2.toInt ∧ x2.toInt ≤ 2) ∧ (0 ≤ x3.toInt ∧ x3.toInt ≤ 30) ∧ (0 ≤ x4.toInt ∧ x4.toInt ≤ 6)))) := by
  show pmE pg X pg_tyl pg_cl (d + 7) 265 0 [.ref 147, .int x1, .int x2, .int x3, .int x4] [] (md wc f A) _
  refine pe_aload_n (j := 0) (by decide +kernel) rfl ?_
  refine pe_iload_n (j := 1) (by decide +kernel) rfl ?_
  refine pe_iload_n (j := 2) (by decide +kernel) rfl ?_
  refine pe_iload_n (j := 3) (by decide +kernel) rfl ?_
  refine pz_callV (j := 232) (mj := 246) (by decide +kernel) (cll_V (args := [.int x3, .int x2, .int x1]) (n := 3) (by decide +kernel) rfl rfl (md_o hc) (by decide +kernel) (Nat.le_of_ble_eq_true rfl) (Nat.le_of_ble_eq_true rfl)) (MM_246 hc hI) (fun q1a q1b q1c q1d hqq1 => ?_)
  obtain ⟨f2, A3, rq1, eq1, hIq1, hGq1, hFq1, kq1⟩ := hqq1
  cases eq1
  refine ⟨rfl, rfl, ?_⟩
  rcases kq1 with kq1 | kq1
  · skip
    obtain ⟨erq1, kq1⟩ := kq1
    subst erq1
    show pmE pg X pg_tyl pg_cl (d + 7) 265 7 [.ref 147, .int x1, .int x2, .int x3, .int x4] [.int 0] (md wc f2 A3) _
    refine pz_if_eq (off := 21) (t := 28) (by decide +kernel) (by decide) rfl kz_0 (fun h4 => ?_) (fun h4 => by omega)
    refine pe_iconstv (n := 0) (v := 0) (by decide +kernel) (by decide +kernel) ?_
    exact pe_iret (by decide +kernel) rfl rfl ⟨f2, A3, 0, rfl, hIq1, (fun k n14 n15 n16 => (hGq1 k n14 n15 n16)), (fun k n152 n153 => (hFq1 k n152 n153)), Or.inl ⟨rfl, trivial⟩⟩
  · skip
    obtain ⟨erq1, kq1⟩ := kq1
    subst erq1
    show pmE pg X pg_tyl pg_cl (d + 7) 265 7 [.ref 147, .int x1, .int x2, .int x3, .int x4] [.int 1] (md wc f2 A3) _
    refine pz_if_eq (off := 21) (t := 28) (by decide +kernel) (by decide) rfl kz_1 (fun h5 => by omega) (fun h5 => ?_)
    refine pe_aload_n (j := 0) (by decide +kernel) rfl ?_
    refine pe_iconstv (n := 0) (v := 0) (by decide +kernel) (by decide +kernel) ?_
    refine pe_iload_n (j := 1) (by decide +kernel) rfl ?_
    refine pi_S (j := 163) (mj := 217) (by decide +kernel) (by decide +kernel) rfl ?_
    show pmE pg X pg_tyl pg_cl (d + 6) 217 0 [.int 0, .int x1] [] (md wc f2 A3) _
    refine pe_iload_n (j := 0) (by decide +kernel) rfl ?_
    refine pz_if_ne (off := 15) (t := 16) (by decide +kernel) (by decide) rfl kz_0 (fun h6 => by omega) (fun h6 => ?_)
    refine pe_sipushv (n := 610) (v := 610) (by decide +kernel) (by decide +kernel) ?_
    refine pe_sipushv (n := 132) (v := 132) (by decide +kernel) (by decide +kernel) ?_
    refine pe_iload_n (j := 1) (by decide +kernel) rfl ?_
    refine pz_mul (by decide +kernel) kz_132 rfl (by omega) (by omega) (fun z7 hz7 => ?_)
    refine pz_add (by decide +kernel) kz_610 hz7 (by omega) (by omega) (fun z8 hz8 => ?_)
    clear hz7
    refine pe_goto (off := 12) (t := 25) (by decide +kernel) (by decide) rfl ?_
    refine pe_iret (by decide +kernel) rfl rfl ⟨rfl, rfl, ?_⟩
    show pmE pg X pg_tyl pg_cl (d + 7) 265 16 [.ref 147, .int x1, .int x2, .int x3, .int x4] [.int z8, .ref 147] (md wc f2 A3) _
    refine pe_iload (j := 4) (by decide +kernel) rfl ?_
    refine pi_V (j := 169) (mj := 223) (by decide +kernel) (cll_V (args := [.int x4, .int z8]) (n := 2) (by decide +kernel) rfl rfl (md_o hc) (by decide +kernel) (Nat.le_of_ble_eq_true rfl) (Nat.le_of_ble_eq_true rfl)) ?_
    show pmE pg X pg_tyl pg_cl (d + 6) 223 0 [.ref 147, .int z8, .int x4] [] (md wc f2 A3) _
    refine pe_iload_n (j := 2) (by decide +kernel) rfl ?_
    refine pe_iconstv (n := 0) (v := 0) (by decide +kernel) (by decide +kernel) ?_
    refine pe_aload_n (j := 0) (by decide +kernel) rfl ?_
    refine pe_get (j := 7) (ci := 12) (n := 0) (by decide +kernel) (by decide +kernel) (md_o hc) rfl ?_
    refine pe_iload_n (j := 1) (by decide +kernel) rfl ?_
    refine pe_iconstv (n := 1) (v := 1) (by decide +kernel) (by decide +kernel) ?_
    refine pz_add (by decide +kernel) hz8 kz_1 (by omega) (by omega) (fun z9 hz9 => ?_)
    refine mz_ld148 (by decide +kernel) hc hIq1 hz9 (by omega) (by omega) (fun v10 ev10 pv10 => ?_)
    rw [show A3 148 = A 148 from (hFq1 148 (by decide) (by decide))] at ev10
    have rv10 : 0 ≤ v10.toInt ∧ v10.toInt ≤ 7 := MT_wants pv10 (by omega)
    clear pv10
    clear hz9
    refine pe_iconstv (n := 1) (v := 1) (by decide +kernel) (by decide +kernel) ?_
    refine pz_sub (by decide +kernel) rfl kz_1 (by omega) (by omega) (fun z11 hz11 => ?_)
    refine pi_S (j := 119) (mj := 199) (by decide +kernel) (by decide +kernel) rfl ?_
    show pmE pg X pg_tyl pg_cl (d + 5) 199 0 [.int x4, .int 0, .int z11] [] (md wc f2 A3) _
    refine pe_iload_n (j := 0) (by decide +kernel) rfl ?_
    refine pe_iload_n (j := 1) (by decide +kernel) rfl ?_
    have lw13 := zi_lo x4
    have uw13 := zi_hi x4
    refine pz_icmp_lt (off := 12) (t := 14) (by decide +kernel) (by decide) rfl rfl kz_0 (fun h12 => ?_) (fun h12 => ?_)
    · skip
      refine pe_iconstv (n := 0) (v := 0) (by decide +kernel) (by decide +kernel) ?_
      refine pe_iret (by decide +kernel) rfl rfl ⟨rfl, rfl, ?_⟩
      show pmE pg X pg_tyl pg_cl (d + 6) 223 15 [.ref 147, .int z8, .int x4] [.int 0] (md wc f2 A3) _
      refine pe_iret (by decide +kernel) rfl rfl ⟨rfl, rfl, ?_⟩
      show pmE pg X pg_tyl pg_cl (d + 7) 265 21 [.ref 147, .int x1, .int x2, .int x3, .int x4] [.int 0] (md wc f2 A3) _
      refine pz_if_eq (off := 7) (t := 28) (by decide +kernel) (by decide) rfl kz_0 (fun h14 => ?_) (fun h14 => by omega)
      refine pe_iconstv (n := 0) (v := 0) (by decide +kernel) (by decide +kernel) ?_
      exact pe_iret (by decide +kernel) rfl rfl ⟨f2, A3, 0, rfl, hIq1, (fun k n14 n15 n16 => (hGq1 k n14 n15 n16)), (fun k n152 n153 => (hFq1 k n152 n153)), Or.inl ⟨rfl, trivial⟩⟩
    · skip
      refine pe_iload_n (j := 0) (by decide +kernel) rfl ?_
      refine pe_iload_n (j := 2) (by decide +kernel) rfl ?_
      refine pz_icmp_gt (off := 7) (t := 14) (by decide +kernel) (by decide) rfl rfl hz11 (fun h15 => ?_) (fun h15 => ?_)
      · skip
        refine pe_iconstv (n := 0) (v := 0) (by decide +kernel) (by decide +kernel) ?_
        refine pe_iret (by decide +kernel) rfl rfl ⟨rfl, rfl, ?_⟩
        show pmE pg X pg_tyl pg_cl (d + 6) 223 15 [.ref 147, .int z8, .int x4] [.int 0] (md wc f2 A3) _
        refine pe_iret (by decide +kernel) rfl rfl ⟨rfl, rfl, ?_⟩
        show pmE pg X pg_tyl pg_cl (d + 7) 265 21 [.ref 147, .int x1, .int x2, .int x3, .int x4] [.int 0] (md wc f2 A3) _
        refine pz_if_eq (off := 7) (t := 28) (by decide +kernel) (by decide) rfl kz_0 (fun h16 => ?_) (fun h16 => by omega)
        refine pe_iconstv (n := 0) (v := 0) (by decide +kernel) (by decide +kernel) ?_
        exact pe_iret (by decide +kernel) rfl rfl ⟨f2, A3, 0, rfl, hIq1, (fun k n14 n15 n16 => (hGq1 k n14 n15 n16)), (fun k n152 n153 => (hFq1 k n152 n153)), Or.inl ⟨rfl, trivial⟩⟩
      · skip
        refine pe_iconstv (n := 1) (v := 1) (by decide +kernel) (by decide +kernel) ?_
        refine pe_goto (off := 4) (t := 15) (by decide +kernel) (by decide) rfl ?_
        refine pe_iret (by decide +kernel) rfl rfl ⟨rfl, rfl, ?_⟩
        show pmE pg X pg_tyl pg_cl (d + 6) 223 15 [.ref 147, .int z8, .int x4] [.int 1] (md wc f2 A3) _
        refine pe_iret (by decide +kernel) rfl rfl ⟨rfl, rfl, ?_⟩
        show pmE pg X pg_tyl pg_cl (d + 7) 265 21 [.ref 147, .int x1, .int x2, .int x3, .int x4] [.int 1] (md wc f2 A3) _
        refine pz_if_eq (off := 7) (t := 28) (by decide +kernel) (by decide) rfl kz_1 (fun h17 => by omega) (fun h17 => ?_)
        refine pe_iconstv (n := 1) (v := 1) (by decide +kernel) (by decide +kernel) ?_
        refine pe_goto (off := 4) (t := 29) (by decide +kernel) (by decide) rfl ?_
        exact pe_iret (by decide +kernel) rfl rfl ⟨f2, A3, 1, rfl, hIq1, (fun k n14 n15 n16 => (hGq1 k n14 n15 n16)), (fun k n152 n153 => (hFq1 k n152 n153)), Or.inr (⟨rfl, (by omega)⟩)⟩
set_option maxRecDepth 100000 in
set_option maxHeartbeats 8000000 in
theorem ML_266_165 {X : pm_X} {d : Nat} {wc : pm_W} {Q : pm_R → Prop} {f : Nat → Int32} {A0 : Nat → List Int32} {x1 x2 x3 x4 x5 x8 x9 : Int32} {j6 j10 : Int64} (hc : wc.length = 147) (gx1 : (610 ≤ x1.toInt ∧ x1.toInt ≤ 742 ∧ (x1.toInt - 610) % 132 = 0)) (gx2 : (0 ≤ x2.toInt ∧ x2.toInt ≤ 6)) (gx8 : (2 ≤ x8.toInt ∧ x8.toInt ≤ 6)) (gx9 : (0 ≤ x9.toInt ∧ x9.toInt ≤ 2147483646)) (hk0 : (∀ j : Int, (0) ≤ j → j < (x8.toInt) → 0 ≤ ((A0 158).getD j.toNat 0).toInt ∧ ((A0 158).getD j.toNat 0).toInt ≤ 8)) (k_192_0 : ∀ (A' : Nat → List Int32) (y12 : Int32), MI f A' → (∀ k : Nat, k ≠ 159 → A' k = A0 k) → (2 ≤ y12.toInt ∧ y12.toInt ≤ 6) → x8.toInt ≤ y12.toInt → pmE pg X pg_tyl pg_cl (d + 3) 266 192 [.ref 147, .int x1, .int x2, .int x3, .int x4, .int x5, .long j6, pm_dead, .int x8, .int x9, .long j10, pm_dead, .int y12] [] (md wc f A') Q) : ∀ (m : Nat) (A : Nat → List Int32) (x12 : Int32), MI f A → (∀ k : Nat, k ≠ 159 → A k = A0 k) → (0 ≤ x12.toInt ∧ x12.toInt ≤ 6) → 6 - x12.toInt < (m : Int) → pmE pg X pg_tyl pg_cl (d + 3) 266 165 [.ref 147, .int x1, .int x2, .int x3, .int x4, .int x5, .long j6, pm_dead, .int x8, .int x9, .long j10, pm_dead, .int x12] [] (md wc f A) Q := by
  intro m
  induction m with
  | zero =>
    intro A x12 hI hF gx12 hm
    exfalso
    have l0 := zi_lo x12
    have u0 := zi_hi x12
    omega
  | succ m ih =>
    intro A x12 hI hF gx12 hm
    refine pe_iload (j := 12) (by decide +kernel) rfl ?_
    refine pe_iload (j := 8) (by decide +kernel) rfl ?_
    refine pz_icmp_ge (off := 23) (t := 192) (by decide +kernel) (by decide) rfl rfl rfl (fun h1 => ?_) (fun h1 => ?_)
    · skip
      exact k_192_0 A x12 hI (fun k n159 => (hF k n159)) (by omega) (by omega)
    · skip
      refine pe_aload_n (j := 0) (by decide +kernel) rfl ?_
      refine pe_get (j := 44) (ci := 12) (n := 22) (by decide +kernel) (by decide +kernel) (md_o hc) rfl ?_
      refine pe_iload (j := 12) (by decide +kernel) rfl ?_
      refine pe_aload_n (j := 0) (by decide +kernel) rfl ?_
      refine pe_get (j := 41) (ci := 12) (n := 21) (by decide +kernel) (by decide +kernel) (md_o hc) rfl ?_
      refine pe_iload (j := 12) (by decide +kernel) rfl ?_
      refine mz_ld158 (by decide +kernel) hc hI rfl (by omega) (by omega) (fun v2 ev2 pv2 => ?_)
      rw [show A 158 = A0 158 from (hF 158 (by decide))] at ev2
      have rv2 : 0 ≤ v2.toInt ∧ v2.toInt ≤ 9 := by have p := pv2; simp only [MP_round] at p; omega
      clear pv2
      have rq3 := hk0 x12.toInt (by omega) (by omega)
      rw [← ev2] at rq3
      refine mz_st159 (by decide +kernel) hc hI rfl (by omega) (by omega) (by simp only [MP_bestRound]; omega) (fun A4 eA4 hIA4 => ?_)
      refine pz_iinc (j := 12) (n := 1) (by decide +kernel) rfl rfl (by decide +kernel) (by omega) (by omega) (fun z5 hz5 => ?_)
      show pmE pg X pg_tyl pg_cl (d + 3) 266 189 [.ref 147, .int x1, .int x2, .int x3, .int x4, .int x5, .long j6, pm_dead, .int x8, .int x9, .long j10, pm_dead, .int z5] [] (md wc f A4) _
      refine pe_goto (off := (-24)) (t := 165) (by decide +kernel) (by decide) rfl ?_
      exact ih A4 z5 hIA4 (fun k n159 => (upa_fr eA4 n159).trans ((hF k n159))) (by omega) (by omega)
set_option maxRecDepth 100000 in
set_option maxHeartbeats 8000000 in
theorem ML_266_21 {X : pm_X} {d : Nat} {wc : pm_W} {Q : pm_R → Prop} {f0 : Nat → Int32} {A0 : Nat → List Int32} {x1 x2 x3 x4 x5 x8 : Int32} (hc : wc.length = 147) (gx1 : (610 ≤ x1.toInt ∧ x1.toInt ≤ 742 ∧ (x1.toInt - 610) % 132 = 0)) (gx2 : (0 ≤ x2.toInt ∧ x2.toInt ≤ 6)) (gx8 : (2 ≤ x8.toInt ∧ x8.toInt ≤ 6)) (k_198_0 : ∀ (f' : Nat → Int32) (A' : Nat → List Int32) (i6 : Int64) (y9 : Int32) (v10 : Value) (v12 : Value), MI f' A' → (∀ k : Nat, k ≠ 23 → k ≠ 24 → f' k = f0 k) → (∀ k : Nat, k ≠ 158 → k ≠ 159 → A' k = A0 k) → (0 ≤ y9.toInt) → pmE pg X pg_tyl pg_cl (d + 3) 266 198 [.ref 147, .int x1, .int x2, .int x3, .int x4, .int x5, .long i6, pm_dead, .int x8, .int y9, v10, pm_dead, v12] [] (md wc f' A') Q) : ∀ (m : Nat) (f : Nat → Int32) (A : Nat → List Int32) (j6 : Int64) (x9 : Int32) (u10 : Value) (u12 : Value), MI f A → (∀ k : Nat, k ≠ 23 → k ≠ 24 → f k = f0 k) → (∀ k : Nat, k ≠ 158 → k ≠ 159 → A k = A0 k) → (0 ≤ x9.toInt) → 2147483647 - x9.toInt < (m : Int) → pmE pg X pg_tyl pg_cl (d + 3) 266 21 [.ref 147, .int x1, .int x2, .int x3, .int x4, .int x5, .long j6, pm_dead, .int x8, .int x9, u10, pm_dead, u12] [] (md wc f A) Q := by
  intro m
  induction m with
  | zero =>
    intro f A j6 x9 u10 u12 hI hG hF gx9 hm
    exfalso
    have l0 := zi_lo x9
    have u0 := zi_hi x9
    omega
  | succ m ih =>
    intro f A j6 x9 u10 u12 hI hG hF gx9 hm
    refine pe_iload (j := 9) (by decide +kernel) rfl ?_
    refine pe_iload (j := 8) (by decide +kernel) rfl ?_
    refine pe_iconstv (n := 2) (v := 2) (by decide +kernel) (by decide +kernel) ?_
    refine pz_sub (by decide +kernel) rfl kz_2 (by omega) (by omega) (fun z1 hz1 => ?_)
    refine pz_callS (j := 286) (mj := 267) (by decide +kernel) (by decide +kernel) rfl (MM_267 hc hI (by omega)) (fun q2a q2b q2c q2d hqq2 => ?_)
    obtain ⟨rq2, eq2, kq2⟩ := hqq2
    cases eq2
    refine ⟨rfl, rfl, ?_⟩
    show pmE pg X pg_tyl pg_cl (d + 3) 266 30 [.ref 147, .int x1, .int x2, .int x3, .int x4, .int x5, .long j6, pm_dead, .int x8, .int x9, u10, pm_dead, u12] [.int rq2, .int x9] (md wc f A) _
    have lw4 := zi_lo x9
    have uw4 := zi_hi x9
    have lw5 := zi_lo rq2
    have uw5 := zi_hi rq2
    refine pz_icmp_ge (off := 168) (t := 198) (by decide +kernel) (by decide) rfl rfl rfl (fun h3 => ?_) (fun h3 => ?_)
    · skip
      exact k_198_0 f A j6 x9 (u10) (u12) hI (fun k n23 n24 => (hG k n23 n24)) (fun k n158 n159 => (hF k n158 n159)) (by omega)
    · skip
      refine pe_aload_n (j := 0) (by decide +kernel) rfl ?_
      refine pe_get (j := 41) (ci := 12) (n := 21) (by decide +kernel) (by decide +kernel) (md_o hc) rfl ?_
      refine pe_iconstv (n := 0) (v := 0) (by decide +kernel) (by decide +kernel) ?_
      refine pe_aload_n (j := 0) (by decide +kernel) rfl ?_
      refine pe_iload_n (j := 1) (by decide +kernel) rfl ?_
      refine pe_iload_n (j := 2) (by decide +kernel) rfl ?_
      refine pe_iconstv (n := 0) (v := 0) (by decide +kernel) (by decide +kernel) ?_
      refine pi_V (j := 172) (mj := 224) (by decide +kernel) (cll_V (args := [.int 0, .int x2, .int x1]) (n := 3) (by decide +kernel) rfl rfl (md_o hc) (by decide +kernel) (Nat.le_of_ble_eq_true rfl) (Nat.le_of_ble_eq_true rfl)) ?_
      show pmE pg X pg_tyl pg_cl (d + 2) 224 0 [.ref 147, .int x1, .int x2, .int 0] [] (md wc f A) _
      refine pe_aload_n (j := 0) (by decide +kernel) rfl ?_
      refine pe_get (j := 7) (ci := 12) (n := 0) (by decide +kernel) (by decide +kernel) (md_o hc) rfl ?_
      refine pe_iload_n (j := 1) (by decide +kernel) rfl ?_
      refine pe_bipushv (n := 102) (v := 102) (by decide +kernel) (by decide +kernel) ?_
      refine pz_add (by decide +kernel) rfl kz_102 (by omega) (by omega) (fun z6 hz6 => ?_)
      refine pe_iconstv (n := 4) (v := 4) (by decide +kernel) (by decide +kernel) ?_
      refine pe_iload_n (j := 2) (by decide +kernel) rfl ?_
      refine pz_mul (by decide +kernel) kz_4 rfl (by omega) (by omega) (fun z7 hz7 => ?_)
      refine pz_add (by decide +kernel) hz6 hz7 (by omega) (by omega) (fun z8 hz8 => ?_)
      clear hz6 hz7
      refine pe_iload_n (j := 3) (by decide +kernel) rfl ?_
      refine pz_add (by decide +kernel) hz8 kz_0 (by omega) (by omega) (fun z9 hz9 => ?_)
      clear hz8
      refine mz_ld148 (by decide +kernel) hc hI hz9 (by omega) (by omega) (fun v10 ev10 pv10 => ?_)
      rw [show A 148 = A0 148 from (hF 148 (by decide) (by decide))] at ev10
      have rv10 : 0 ≤ v10.toInt ∧ v10.toInt ≤ 8 := MT_want pv10 (by omega)
      clear pv10
      clear hz9
      refine pe_iret (by decide +kernel) rfl rfl ⟨rfl, rfl, ?_⟩
      show pmE pg X pg_tyl pg_cl (d + 3) 266 45 [.ref 147, .int x1, .int x2, .int x3, .int x4, .int x5, .long j6, pm_dead, .int x8, .int x9, u10, pm_dead, u12] [.int v10, .int 0, .ref 158] (md wc f A) _
      refine mz_st158 (by decide +kernel) hc hI kz_0 (by omega) (by omega) (by simp only [MP_round]; omega) (fun A11 eA11 hIA11 => ?_)
      refine pe_aload_n (j := 0) (by decide +kernel) rfl ?_
      refine pe_get (j := 41) (ci := 12) (n := 21) (by decide +kernel) (by decide +kernel) (md_o hc) rfl ?_
      refine pe_iconstv (n := 1) (v := 1) (by decide +kernel) (by decide +kernel) ?_
      refine pe_aload_n (j := 0) (by decide +kernel) rfl ?_
      refine pe_iload_n (j := 1) (by decide +kernel) rfl ?_
      refine pe_iload_n (j := 2) (by decide +kernel) rfl ?_
      refine pe_iconstv (n := 1) (v := 1) (by decide +kernel) (by decide +kernel) ?_
      refine pi_V (j := 172) (mj := 224) (by decide +kernel) (cll_V (args := [.int 1, .int x2, .int x1]) (n := 3) (by decide +kernel) rfl rfl (md_o hc) (by decide +kernel) (Nat.le_of_ble_eq_true rfl) (Nat.le_of_ble_eq_true rfl)) ?_
      show pmE pg X pg_tyl pg_cl (d + 2) 224 0 [.ref 147, .int x1, .int x2, .int 1] [] (md wc f A11) _
      refine pe_aload_n (j := 0) (by decide +kernel) rfl ?_
      refine pe_get (j := 7) (ci := 12) (n := 0) (by decide +kernel) (by decide +kernel) (md_o hc) rfl ?_
      refine pe_iload_n (j := 1) (by decide +kernel) rfl ?_
      refine pe_bipushv (n := 102) (v := 102) (by decide +kernel) (by decide +kernel) ?_
      refine pz_add (by decide +kernel) rfl kz_102 (by omega) (by omega) (fun z12 hz12 => ?_)
      refine pe_iconstv (n := 4) (v := 4) (by decide +kernel) (by decide +kernel) ?_
      refine pe_iload_n (j := 2) (by decide +kernel) rfl ?_
      refine pz_mul (by decide +kernel) kz_4 rfl (by omega) (by omega) (fun z13 hz13 => ?_)
      refine pz_add (by decide +kernel) hz12 hz13 (by omega) (by omega) (fun z14 hz14 => ?_)
      clear hz12 hz13
      refine pe_iload_n (j := 3) (by decide +kernel) rfl ?_
      refine pz_add (by decide +kernel) hz14 kz_1 (by omega) (by omega) (fun z15 hz15 => ?_)
      clear hz14
      refine mz_ld148 (by decide +kernel) hc hIA11 hz15 (by omega) (by omega) (fun v16 ev16 pv16 => ?_)
      rw [show A11 148 = A0 148 from (upa_fr eA11 (by decide)).trans ((hF 148 (by decide) (by decide)))] at ev16
      have rv16 : 0 ≤ v16.toInt ∧ v16.toInt ≤ 8 := MT_want pv16 (by omega)
      clear pv16
      clear hz15
      refine pe_iret (by decide +kernel) rfl rfl ⟨rfl, rfl, ?_⟩
      show pmE pg X pg_tyl pg_cl (d + 3) 266 58 [.ref 147, .int x1, .int x2, .int x3, .int x4, .int x5, .long j6, pm_dead, .int x8, .int x9, u10, pm_dead, u12] [.int v16, .int 1, .ref 158] (md wc f A11) _
      refine mz_st158 (by decide +kernel) hc hIA11 kz_1 (by omega) (by omega) (by simp only [MP_round]; omega) (fun A17 eA17 hIA17 => ?_)
      refine pe_aload_n (j := 0) (by decide +kernel) rfl ?_
      refine pe_iload_n (j := 1) (by decide +kernel) rfl ?_
      refine pe_iconstv (n := 2) (v := 2) (by decide +kernel) (by decide +kernel) ?_
      refine pe_iload (j := 8) (by decide +kernel) rfl ?_
      refine pe_iload (j := 9) (by decide +kernel) rfl ?_
      refine pz_callV (j := 289) (mj := 268) (by decide +kernel) (cll_V (args := [.int x9, .int x8, .int 2, .int x1]) (n := 4) (by decide +kernel) rfl rfl (md_o hc) (by decide +kernel) (Nat.le_of_ble_eq_true rfl) (Nat.le_of_ble_eq_true rfl)) (MM_268 hc hIA17 (by omega) (by decide +kernel) (by omega) (by omega)) (fun q18a q18b q18c q18d hqq18 => ?_)
      obtain ⟨A19, rq18, eq18, hIq18, hFq18, kq18⟩ := hqq18
      cases eq18
      refine ⟨rfl, rfl, ?_⟩
      rcases kq18 with kq18 | kq18
      · skip
        obtain ⟨erq18, kq18⟩ := kq18
        subst erq18
        show pmE pg X pg_tyl pg_cl (d + 3) 266 69 [.ref 147, .int x1, .int x2, .int x3, .int x4, .int x5, .long j6, pm_dead, .int x8, .int x9, u10, pm_dead, u12] [.int 0] (md wc f A19) _
        refine pz_if_eq (off := 123) (t := 192) (by decide +kernel) (by decide) rfl kz_0 (fun h20 => ?_) (fun h20 => by omega)
        refine pz_iinc (j := 9) (n := 1) (by decide +kernel) rfl rfl (by decide +kernel) (by omega) (by omega) (fun z21 hz21 => ?_)
        show pmE pg X pg_tyl pg_cl (d + 3) 266 195 [.ref 147, .int x1, .int x2, .int x3, .int x4, .int x5, .long j6, pm_dead, .int x8, .int z21, u10, pm_dead, u12] [] (md wc f A19) _
        refine pe_goto (off := (-174)) (t := 21) (by decide +kernel) (by decide) rfl ?_
        exact ih f A19 j6 z21 (u10) (u12) hIq18 (fun k n23 n24 => (hG k n23 n24)) (fun k n158 n159 => ((hFq18 k n158)).trans ((upa_fr eA17 n158).trans ((upa_fr eA11 n158).trans ((hF k n158 n159))))) (by omega) (by omega)
      · skip
        obtain ⟨erq18, kq18⟩ := kq18
        subst erq18
        obtain ⟨hq22, kq18⟩ := kq18
        show pmE pg X pg_tyl pg_cl (d + 3) 266 69 [.ref 147, .int x1, .int x2, .int x3, .int x4, .int x5, .long j6, pm_dead, .int x8, .int x9, u10, pm_dead, u12] [.int 1] (md wc f A19) _
        refine pz_if_eq (off := 123) (t := 192) (by decide +kernel) (by decide) rfl kz_1 (fun h23 => by omega) (fun h23 => ?_)
        refine pe_aload_n (j := 0) (by decide +kernel) rfl ?_
        refine pe_iload_n (j := 1) (by decide +kernel) rfl ?_
        refine pe_iload (j := 8) (by decide +kernel) rfl ?_
        refine pe_aload_n (j := 0) (by decide +kernel) rfl ?_
        refine pe_iload_n (j := 1) (by decide +kernel) rfl ?_
        refine pe_iload_n (j := 2) (by decide +kernel) rfl ?_
        refine pe_iconstv (n := 2) (v := 2) (by decide +kernel) (by decide +kernel) ?_
        refine pi_V (j := 172) (mj := 224) (by decide +kernel) (cll_V (args := [.int 2, .int x2, .int x1]) (n := 3) (by decide +kernel) rfl rfl (md_o hc) (by decide +kernel) (Nat.le_of_ble_eq_true rfl) (Nat.le_of_ble_eq_true rfl)) ?_
        show pmE pg X pg_tyl pg_cl (d + 2) 224 0 [.ref 147, .int x1, .int x2, .int 2] [] (md wc f A19) _
        refine pe_aload_n (j := 0) (by decide +kernel) rfl ?_
        refine pe_get (j := 7) (ci := 12) (n := 0) (by decide +kernel) (by decide +kernel) (md_o hc) rfl ?_
        refine pe_iload_n (j := 1) (by decide +kernel) rfl ?_
        refine pe_bipushv (n := 102) (v := 102) (by decide +kernel) (by decide +kernel) ?_
        refine pz_add (by decide +kernel) rfl kz_102 (by omega) (by omega) (fun z24 hz24 => ?_)
        refine pe_iconstv (n := 4) (v := 4) (by decide +kernel) (by decide +kernel) ?_
        refine pe_iload_n (j := 2) (by decide +kernel) rfl ?_
        refine pz_mul (by decide +kernel) kz_4 rfl (by omega) (by omega) (fun z25 hz25 => ?_)
        refine pz_add (by decide +kernel) hz24 hz25 (by omega) (by omega) (fun z26 hz26 => ?_)
        clear hz24 hz25
        refine pe_iload_n (j := 3) (by decide +kernel) rfl ?_
        refine pz_add (by decide +kernel) hz26 kz_2 (by omega) (by omega) (fun z27 hz27 => ?_)
        clear hz26
        refine mz_ld148 (by decide +kernel) hc hIq18 hz27 (by omega) (by omega) (fun v28 ev28 pv28 => ?_)
        rw [show A19 148 = A0 148 from ((hFq18 148 (by decide))).trans ((upa_fr eA17 (by decide)).trans ((upa_fr eA11 (by decide)).trans ((hF 148 (by decide) (by decide)))))] at ev28
        clear pv28
        clear hz27
        refine pe_iret (by decide +kernel) rfl rfl ⟨rfl, rfl, ?_⟩
        show pmE pg X pg_tyl pg_cl (d + 3) 266 83 [.ref 147, .int x1, .int x2, .int x3, .int x4, .int x5, .long j6, pm_dead, .int x8, .int x9, u10, pm_dead, u12] [.int v28, .int x8, .int x1, .ref 147] (md wc f A19) _
        have hq29 : (∀ j : Int, (0) ≤ j → j < (x8.toInt) → 0 ≤ ((A19 158).getD j.toNat 0).toInt ∧ ((A19 158).getD j.toNat 0).toInt ≤ 8) := by
          intro j h1 h2
          first
          | (exfalso; omega)
          | exact hq22 j (by omega) (by omega)
        refine pz_callV (j := 293) (mj := 269) (by decide +kernel) (cll_V (args := [.int v28, .int x8, .int x1]) (n := 3) (by decide +kernel) rfl rfl (md_o hc) (by decide +kernel) (Nat.le_of_ble_eq_true rfl) (Nat.le_of_ble_eq_true rfl)) (MM_269 hc hIq18 (by omega) (by omega) hq29) (fun q30a q30b q30c q30d hqq30 => ?_)
        obtain ⟨rq30, eq30, kq30⟩ := hqq30
        cases eq30
        refine ⟨rfl, rfl, ?_⟩
        show pmE pg X pg_tyl pg_cl (d + 3) 266 86 [.ref 147, .int x1, .int x2, .int x3, .int x4, .int x5, .long j6, pm_dead, .int x8, .int x9, u10, pm_dead, u12] [.int rq30] (md wc f A19) _
        refine pz_if_ne (off := 6) (t := 92) (by decide +kernel) (by decide) rfl rfl (fun h31 => ?_) (fun h31 => ?_)
        · skip
          refine pe_aload_n (j := 0) (by decide +kernel) rfl ?_
          refine pe_iload (j := 8) (by decide +kernel) rfl ?_
          refine mz_put24 (jj := 278) (by decide +kernel) (by decide +kernel) hc hIq18 (by omega) (by omega) (fun f32 ef32 hIf32 => ?_)
          refine pe_iload_n (j := 3) (by decide +kernel) rfl ?_
          have lw34 := zi_lo x3
          have uw34 := zi_hi x3
          refine pz_if_ne (off := 7) (t := 106) (by decide +kernel) (by decide) rfl rfl (fun h33 => ?_) (fun h33 => ?_)
          · skip
            refine pe_iload_n (j := 3) (by decide +kernel) rfl ?_
            refine pe_iconstv (n := 1) (v := 1) (by decide +kernel) (by decide +kernel) ?_
            refine pz_icmp_ne (off := 17) (t := 125) (by decide +kernel) (by decide) rfl rfl kz_1 (fun h35 => ?_) (fun h35 => ?_)
            · skip
              refine pe_aload_n (j := 0) (by decide +kernel) rfl ?_
              refine pe_iload_n (j := 1) (by decide +kernel) rfl ?_
              refine pe_iload (j := 8) (by decide +kernel) rfl ?_
              refine pz_callV (j := 299) (mj := 271) (by decide +kernel) (cll_V (args := [.int x8, .int x1]) (n := 2) (by decide +kernel) rfl rfl (md_o hc) (by decide +kernel) (Nat.le_of_ble_eq_true rfl) (Nat.le_of_ble_eq_true rfl)) (MM_271 hc hIf32 (by omega) (by omega)) (fun q36a q36b q36c q36d hqq36 => ?_)
              obtain ⟨lq36, eq36, kq36⟩ := hqq36
              cases eq36
              refine ⟨rfl, rfl, ?_⟩
              show pmE pg X pg_tyl pg_cl (d + 3) 266 132 [.ref 147, .int x1, .int x2, .int x3, .int x4, .int x5, .long j6, pm_dead, .int x8, .int x9, u10, pm_dead, u12] [.long lq36] (md wc f32 A19) _
              refine pe_lstore (j := 10) (ls' := [.ref 147, .int x1, .int x2, .int x3, .int x4, .int x5, .long j6, pm_dead, .int x8, .int x9, .long lq36, pm_dead, u12]) (by decide +kernel) (Nat.le_of_ble_eq_true rfl) rfl ?_
              refine pe_aload_n (j := 0) (by decide +kernel) rfl ?_
              refine pe_get (j := 283) (ci := 12) (n := 23) (by decide +kernel) (by decide +kernel) (md_o hc) rfl ?_
              have hr_23_f := hI.1 23
              simp only [MF] at hr_23_f
              refine pe_top (v := (f 23)) (upf_fr ef32 (by decide)) ?_
              refine pz_if_le (off := 14) (t := 152) (by decide +kernel) (by decide) rfl rfl (fun h37 => ?_) (fun h37 => ?_)
              · skip
                refine pe_lload (j := 10) (by decide +kernel) rfl ?_
                refine pe_lstore (j := 6) (ls' := [.ref 147, .int x1, .int x2, .int x3, .int x4, .int x5, .long lq36, pm_dead, .int x8, .int x9, .long lq36, pm_dead, u12]) (by decide +kernel) (Nat.le_of_ble_eq_true rfl) rfl ?_
                refine pe_aload_n (j := 0) (by decide +kernel) rfl ?_
                refine pe_iload (j := 8) (by decide +kernel) rfl ?_
                refine mz_put23 (jj := 283) (by decide +kernel) (by decide +kernel) hc hIf32 (by omega) (by omega) (fun f38 ef38 hIf38 => ?_)
                refine pe_iconstv (n := 0) (v := 0) (by decide +kernel) (by decide +kernel) ?_
                refine pe_istore (j := 12) (ls' := [.ref 147, .int x1, .int x2, .int x3, .int x4, .int x5, .long lq36, pm_dead, .int x8, .int x9, .long lq36, pm_dead, .int 0]) (by decide +kernel) (Nat.le_of_ble_eq_true rfl) rfl ?_
                have hk39 : (∀ j : Int, (0) ≤ j → j < (x8.toInt) → 0 ≤ ((A19 158).getD j.toNat 0).toInt ∧ ((A19 158).getD j.toNat 0).toInt ≤ 8) := by
                  intro j h1 h2
                  first
                  | (exfalso; omega)
                  | exact hq22 j (by omega) (by omega)
                refine ML_266_165 hc (by omega) (by omega) (by omega) (by omega) hk39 (fun A40 y42 hIy41 hFhIy41 gy42 hr43 => ?_) 7 A19 0 hIf38 (fun k _ => rfl) (by decide +kernel) (by decide +kernel)
                refine pz_iinc (j := 9) (n := 1) (by decide +kernel) rfl rfl (by decide +kernel) (by omega) (by omega) (fun z44 hz44 => ?_)
                show pmE pg X pg_tyl pg_cl (d + 3) 266 195 [.ref 147, .int x1, .int x2, .int x3, .int x4, .int x5, .long lq36, pm_dead, .int x8, .int z44, .long lq36, pm_dead, .int y42] [] (md wc f38 A40) _
                refine pe_goto (off := (-174)) (t := 21) (by decide +kernel) (by decide) rfl ?_
                exact ih f38 A40 lq36 z44 (.long lq36) (.int y42) hIy41 (fun k n23 n24 => (upf_fr ef38 n23).trans ((upf_fr ef32 n24).trans ((hG k n23 n24)))) (fun k n158 n159 => ((hFhIy41 k n159)).trans (((hFq18 k n158)).trans ((upa_fr eA17 n158).trans ((upa_fr eA11 n158).trans ((hF k n158 n159)))))) (by omega) (by omega)
              · skip
                refine pe_lload (j := 10) (by decide +kernel) rfl ?_
                refine pe_lload (j := 6) (by decide +kernel) rfl ?_
                refine pw_lcmp (by decide +kernel) (fun z45 => ?_)
                have lw47 := zi_lo z45
                have uw47 := zi_hi z45
                refine pz_if_gt (off := 6) (t := 152) (by decide +kernel) (by decide) rfl rfl (fun h46 => ?_) (fun h46 => ?_)
                · skip
                  refine pe_lload (j := 10) (by decide +kernel) rfl ?_
                  refine pe_lstore (j := 6) (ls' := [.ref 147, .int x1, .int x2, .int x3, .int x4, .int x5, .long lq36, pm_dead, .int x8, .int x9, .long lq36, pm_dead, u12]) (by decide +kernel) (Nat.le_of_ble_eq_true rfl) rfl ?_
                  refine pe_aload_n (j := 0) (by decide +kernel) rfl ?_
                  refine pe_iload (j := 8) (by decide +kernel) rfl ?_
                  refine mz_put23 (jj := 283) (by decide +kernel) (by decide +kernel) hc hIf32 (by omega) (by omega) (fun f48 ef48 hIf48 => ?_)
                  refine pe_iconstv (n := 0) (v := 0) (by decide +kernel) (by decide +kernel) ?_
                  refine pe_istore (j := 12) (ls' := [.ref 147, .int x1, .int x2, .int x3, .int x4, .int x5, .long lq36, pm_dead, .int x8, .int x9, .long lq36, pm_dead, .int 0]) (by decide +kernel) (Nat.le_of_ble_eq_true rfl) rfl ?_
                  have hk49 : (∀ j : Int, (0) ≤ j → j < (x8.toInt) → 0 ≤ ((A19 158).getD j.toNat 0).toInt ∧ ((A19 158).getD j.toNat 0).toInt ≤ 8) := by
                    intro j h1 h2
                    first
                    | (exfalso; omega)
                    | exact hq22 j (by omega) (by omega)
                  refine ML_266_165 hc (by omega) (by omega) (by omega) (by omega) hk49 (fun A50 y52 hIy51 hFhIy51 gy52 hr53 => ?_) 7 A19 0 hIf48 (fun k _ => rfl) (by decide +kernel) (by decide +kernel)
                  refine pz_iinc (j := 9) (n := 1) (by decide +kernel) rfl rfl (by decide +kernel) (by omega) (by omega) (fun z54 hz54 => ?_)
                  show pmE pg X pg_tyl pg_cl (d + 3) 266 195 [.ref 147, .int x1, .int x2, .int x3, .int x4, .int x5, .long lq36, pm_dead, .int x8, .int z54, .long lq36, pm_dead, .int y52] [] (md wc f48 A50) _
                  refine pe_goto (off := (-174)) (t := 21) (by decide +kernel) (by decide) rfl ?_
                  exact ih f48 A50 lq36 z54 (.long lq36) (.int y52) hIy51 (fun k n23 n24 => (upf_fr ef48 n23).trans ((upf_fr ef32 n24).trans ((hG k n23 n24)))) (fun k n158 n159 => ((hFhIy51 k n159)).trans (((hFq18 k n158)).trans ((upa_fr eA17 n158).trans ((upa_fr eA11 n158).trans ((hF k n158 n159)))))) (by omega) (by omega)
                · skip
                  refine pe_goto (off := 43) (t := 192) (by decide +kernel) (by decide) rfl ?_
                  refine pz_iinc (j := 9) (n := 1) (by decide +kernel) rfl rfl (by decide +kernel) (by omega) (by omega) (fun z55 hz55 => ?_)
                  show pmE pg X pg_tyl pg_cl (d + 3) 266 195 [.ref 147, .int x1, .int x2, .int x3, .int x4, .int x5, .long j6, pm_dead, .int x8, .int z55, .long lq36, pm_dead, u12] [] (md wc f32 A19) _
                  refine pe_goto (off := (-174)) (t := 21) (by decide +kernel) (by decide) rfl ?_
                  exact ih f32 A19 j6 z55 (.long lq36) (u12) hIf32 (fun k n23 n24 => (upf_fr ef32 n24).trans ((hG k n23 n24))) (fun k n158 n159 => ((hFq18 k n158)).trans ((upa_fr eA17 n158).trans ((upa_fr eA11 n158).trans ((hF k n158 n159))))) (by omega) (by omega)
            · skip
              refine pe_aload_n (j := 0) (by decide +kernel) rfl ?_
              refine pe_iload_n (j := 1) (by decide +kernel) rfl ?_
              refine pe_iload (j := 4) (by decide +kernel) rfl ?_
              refine pe_iload (j := 5) (by decide +kernel) rfl ?_
              refine pz_callV (j := 296) (mj := 270) (by decide +kernel) (cll_V (args := [.int x5, .int x4, .int x1]) (n := 3) (by decide +kernel) rfl rfl (md_o hc) (by decide +kernel) (Nat.le_of_ble_eq_true rfl) (Nat.le_of_ble_eq_true rfl)) (MM_270 hc hIf32 (by omega)) (fun q56a q56b q56c q56d hqq56 => ?_)
              obtain ⟨rq56, eq56, kq56⟩ := hqq56
              cases eq56
              refine ⟨rfl, rfl, ?_⟩
              show pmE pg X pg_tyl pg_cl (d + 3) 266 120 [.ref 147, .int x1, .int x2, .int x3, .int x4, .int x5, .long j6, pm_dead, .int x8, .int x9, u10, pm_dead, u12] [.int rq56] (md wc f32 A19) _
              refine pw_neg (by decide +kernel) (fun z57 => ?_)
              refine pw_i2l (by decide +kernel) (fun l58 => ?_)
              refine pe_goto (off := 10) (t := 132) (by decide +kernel) (by decide) rfl ?_
              refine pe_lstore (j := 10) (ls' := [.ref 147, .int x1, .int x2, .int x3, .int x4, .int x5, .long j6, pm_dead, .int x8, .int x9, .long l58, pm_dead, u12]) (by decide +kernel) (Nat.le_of_ble_eq_true rfl) rfl ?_
              refine pe_aload_n (j := 0) (by decide +kernel) rfl ?_
              refine pe_get (j := 283) (ci := 12) (n := 23) (by decide +kernel) (by decide +kernel) (md_o hc) rfl ?_
              have hr_23_f := hI.1 23
              simp only [MF] at hr_23_f
              refine pe_top (v := (f 23)) (upf_fr ef32 (by decide)) ?_
              refine pz_if_le (off := 14) (t := 152) (by decide +kernel) (by decide) rfl rfl (fun h59 => ?_) (fun h59 => ?_)
              · skip
                refine pe_lload (j := 10) (by decide +kernel) rfl ?_
                refine pe_lstore (j := 6) (ls' := [.ref 147, .int x1, .int x2, .int x3, .int x4, .int x5, .long l58, pm_dead, .int x8, .int x9, .long l58, pm_dead, u12]) (by decide +kernel) (Nat.le_of_ble_eq_true rfl) rfl ?_
                refine pe_aload_n (j := 0) (by decide +kernel) rfl ?_
                refine pe_iload (j := 8) (by decide +kernel) rfl ?_
                refine mz_put23 (jj := 283) (by decide +kernel) (by decide +kernel) hc hIf32 (by omega) (by omega) (fun f60 ef60 hIf60 => ?_)
                refine pe_iconstv (n := 0) (v := 0) (by decide +kernel) (by decide +kernel) ?_
                refine pe_istore (j := 12) (ls' := [.ref 147, .int x1, .int x2, .int x3, .int x4, .int x5, .long l58, pm_dead, .int x8, .int x9, .long l58, pm_dead, .int 0]) (by decide +kernel) (Nat.le_of_ble_eq_true rfl) rfl ?_
                have hk61 : (∀ j : Int, (0) ≤ j → j < (x8.toInt) → 0 ≤ ((A19 158).getD j.toNat 0).toInt ∧ ((A19 158).getD j.toNat 0).toInt ≤ 8) := by
                  intro j h1 h2
                  first
                  | (exfalso; omega)
                  | exact hq22 j (by omega) (by omega)
                refine ML_266_165 hc (by omega) (by omega) (by omega) (by omega) hk61 (fun A62 y64 hIy63 hFhIy63 gy64 hr65 => ?_) 7 A19 0 hIf60 (fun k _ => rfl) (by decide +kernel) (by decide +kernel)
                refine pz_iinc (j := 9) (n := 1) (by decide +kernel) rfl rfl (by decide +kernel) (by omega) (by omega) (fun z66 hz66 => ?_)
                show pmE pg X pg_tyl pg_cl (d + 3) 266 195 [.ref 147, .int x1, .int x2, .int x3, .int x4, .int x5, .long l58, pm_dead, .int x8, .int z66, .long l58, pm_dead, .int y64] [] (md wc f60 A62) _
                refine pe_goto (off := (-174)) (t := 21) (by decide +kernel) (by decide) rfl ?_
                exact ih f60 A62 l58 z66 (.long l58) (.int y64) hIy63 (fun k n23 n24 => (upf_fr ef60 n23).trans ((upf_fr ef32 n24).trans ((hG k n23 n24)))) (fun k n158 n159 => ((hFhIy63 k n159)).trans (((hFq18 k n158)).trans ((upa_fr eA17 n158).trans ((upa_fr eA11 n158).trans ((hF k n158 n159)))))) (by omega) (by omega)
              · skip
                refine pe_lload (j := 10) (by decide +kernel) rfl ?_
                refine pe_lload (j := 6) (by decide +kernel) rfl ?_
                refine pw_lcmp (by decide +kernel) (fun z67 => ?_)
                have lw69 := zi_lo z67
                have uw69 := zi_hi z67
                refine pz_if_gt (off := 6) (t := 152) (by decide +kernel) (by decide) rfl rfl (fun h68 => ?_) (fun h68 => ?_)
                · skip
                  refine pe_lload (j := 10) (by decide +kernel) rfl ?_
                  refine pe_lstore (j := 6) (ls' := [.ref 147, .int x1, .int x2, .int x3, .int x4, .int x5, .long l58, pm_dead, .int x8, .int x9, .long l58, pm_dead, u12]) (by decide +kernel) (Nat.le_of_ble_eq_true rfl) rfl ?_
                  refine pe_aload_n (j := 0) (by decide +kernel) rfl ?_
                  refine pe_iload (j := 8) (by decide +kernel) rfl ?_
                  refine mz_put23 (jj := 283) (by decide +kernel) (by decide +kernel) hc hIf32 (by omega) (by omega) (fun f70 ef70 hIf70 => ?_)
                  refine pe_iconstv (n := 0) (v := 0) (by decide +kernel) (by decide +kernel) ?_
                  refine pe_istore (j := 12) (ls' := [.ref 147, .int x1, .int x2, .int x3, .int x4, .int x5, .long l58, pm_dead, .int x8, .int x9, .long l58, pm_dead, .int 0]) (by decide +kernel) (Nat.le_of_ble_eq_true rfl) rfl ?_
                  have hk71 : (∀ j : Int, (0) ≤ j → j < (x8.toInt) → 0 ≤ ((A19 158).getD j.toNat 0).toInt ∧ ((A19 158).getD j.toNat 0).toInt ≤ 8) := by
                    intro j h1 h2
                    first
                    | (exfalso; omega)
                    | exact hq22 j (by omega) (by omega)
                  refine ML_266_165 hc (by omega) (by omega) (by omega) (by omega) hk71 (fun A72 y74 hIy73 hFhIy73 gy74 hr75 => ?_) 7 A19 0 hIf70 (fun k _ => rfl) (by decide +kernel) (by decide +kernel)
                  refine pz_iinc (j := 9) (n := 1) (by decide +kernel) rfl rfl (by decide +kernel) (by omega) (by omega) (fun z76 hz76 => ?_)
                  show pmE pg X pg_tyl pg_cl (d + 3) 266 195 [.ref 147, .int x1, .int x2, .int x3, .int x4, .int x5, .long l58, pm_dead, .int x8, .int z76, .long l58, pm_dead, .int y74] [] (md wc f70 A72) _
                  refine pe_goto (off := (-174)) (t := 21) (by decide +kernel) (by decide) rfl ?_
                  exact ih f70 A72 l58 z76 (.long l58) (.int y74) hIy73 (fun k n23 n24 => (upf_fr ef70 n23).trans ((upf_fr ef32 n24).trans ((hG k n23 n24)))) (fun k n158 n159 => ((hFhIy73 k n159)).trans (((hFq18 k n158)).trans ((upa_fr eA17 n158).trans ((upa_fr eA11 n158).trans ((hF k n158 n159)))))) (by omega) (by omega)
                · skip
                  refine pe_goto (off := 43) (t := 192) (by decide +kernel) (by decide) rfl ?_
                  refine pz_iinc (j := 9) (n := 1) (by decide +kernel) rfl rfl (by decide +kernel) (by omega) (by omega) (fun z77 hz77 => ?_)
                  show pmE pg X pg_tyl pg_cl (d + 3) 266 195 [.ref 147, .int x1, .int x2, .int x3, .int x4, .int x5, .long j6, pm_dead, .int x8, .int z77, .long l58, pm_dead, u12] [] (md wc f32 A19) _
                  refine pe_goto (off := (-174)) (t := 21) (by decide +kernel) (by decide) rfl ?_
                  exact ih f32 A19 j6 z77 (.long l58) (u12) hIf32 (fun k n23 n24 => (upf_fr ef32 n24).trans ((hG k n23 n24))) (fun k n158 n159 => ((hFq18 k n158)).trans ((upa_fr eA17 n158).trans ((upa_fr eA11 n158).trans ((hF k n158 n159))))) (by omega) (by omega)
          · skip
            refine pw_lconst (n := 0) (by decide +kernel) (fun l78 => ?_)
            refine pe_goto (off := 29) (t := 132) (by decide +kernel) (by decide) rfl ?_
            refine pe_lstore (j := 10) (ls' := [.ref 147, .int x1, .int x2, .int x3, .int x4, .int x5, .long j6, pm_dead, .int x8, .int x9, .long l78, pm_dead, u12]) (by decide +kernel) (Nat.le_of_ble_eq_true rfl) rfl ?_
            refine pe_aload_n (j := 0) (by decide +kernel) rfl ?_
            refine pe_get (j := 283) (ci := 12) (n := 23) (by decide +kernel) (by decide +kernel) (md_o hc) rfl ?_
            have hr_23_f := hI.1 23
            simp only [MF] at hr_23_f
            refine pe_top (v := (f 23)) (upf_fr ef32 (by decide)) ?_
            refine pz_if_le (off := 14) (t := 152) (by decide +kernel) (by decide) rfl rfl (fun h79 => ?_) (fun h79 => ?_)
            · skip
              refine pe_lload (j := 10) (by decide +kernel) rfl ?_
              refine pe_lstore (j := 6) (ls' := [.ref 147, .int x1, .int x2, .int x3, .int x4, .int x5, .long l78, pm_dead, .int x8, .int x9, .long l78, pm_dead, u12]) (by decide +kernel) (Nat.le_of_ble_eq_true rfl) rfl ?_
              refine pe_aload_n (j := 0) (by decide +kernel) rfl ?_
              refine pe_iload (j := 8) (by decide +kernel) rfl ?_
              refine mz_put23 (jj := 283) (by decide +kernel) (by decide +kernel) hc hIf32 (by omega) (by omega) (fun f80 ef80 hIf80 => ?_)
              refine pe_iconstv (n := 0) (v := 0) (by decide +kernel) (by decide +kernel) ?_
              refine pe_istore (j := 12) (ls' := [.ref 147, .int x1, .int x2, .int x3, .int x4, .int x5, .long l78, pm_dead, .int x8, .int x9, .long l78, pm_dead, .int 0]) (by decide +kernel) (Nat.le_of_ble_eq_true rfl) rfl ?_
              have hk81 : (∀ j : Int, (0) ≤ j → j < (x8.toInt) → 0 ≤ ((A19 158).getD j.toNat 0).toInt ∧ ((A19 158).getD j.toNat 0).toInt ≤ 8) := by
                intro j h1 h2
                first
                | (exfalso; omega)
                | exact hq22 j (by omega) (by omega)
              refine ML_266_165 hc (by omega) (by omega) (by omega) (by omega) hk81 (fun A82 y84 hIy83 hFhIy83 gy84 hr85 => ?_) 7 A19 0 hIf80 (fun k _ => rfl) (by decide +kernel) (by decide +kernel)
              refine pz_iinc (j := 9) (n := 1) (by decide +kernel) rfl rfl (by decide +kernel) (by omega) (by omega) (fun z86 hz86 => ?_)
              show pmE pg X pg_tyl pg_cl (d + 3) 266 195 [.ref 147, .int x1, .int x2, .int x3, .int x4, .int x5, .long l78, pm_dead, .int x8, .int z86, .long l78, pm_dead, .int y84] [] (md wc f80 A82) _
              refine pe_goto (off := (-174)) (t := 21) (by decide +kernel) (by decide) rfl ?_
              exact ih f80 A82 l78 z86 (.long l78) (.int y84) hIy83 (fun k n23 n24 => (upf_fr ef80 n23).trans ((upf_fr ef32 n24).trans ((hG k n23 n24)))) (fun k n158 n159 => ((hFhIy83 k n159)).trans (((hFq18 k n158)).trans ((upa_fr eA17 n158).trans ((upa_fr eA11 n158).trans ((hF k n158 n159)))))) (by omega) (by omega)
            · skip
              refine pe_lload (j := 10) (by decide +kernel) rfl ?_
              refine pe_lload (j := 6) (by decide +kernel) rfl ?_
              refine pw_lcmp (by decide +kernel) (fun z87 => ?_)
              have lw89 := zi_lo z87
              have uw89 := zi_hi z87
              refine pz_if_gt (off := 6) (t := 152) (by decide +kernel) (by decide) rfl rfl (fun h88 => ?_) (fun h88 => ?_)
              · skip
                refine pe_lload (j := 10) (by decide +kernel) rfl ?_
                refine pe_lstore (j := 6) (ls' := [.ref 147, .int x1, .int x2, .int x3, .int x4, .int x5, .long l78, pm_dead, .int x8, .int x9, .long l78, pm_dead, u12]) (by decide +kernel) (Nat.le_of_ble_eq_true rfl) rfl ?_
                refine pe_aload_n (j := 0) (by decide +kernel) rfl ?_
                refine pe_iload (j := 8) (by decide +kernel) rfl ?_
                refine mz_put23 (jj := 283) (by decide +kernel) (by decide +kernel) hc hIf32 (by omega) (by omega) (fun f90 ef90 hIf90 => ?_)
                refine pe_iconstv (n := 0) (v := 0) (by decide +kernel) (by decide +kernel) ?_
                refine pe_istore (j := 12) (ls' := [.ref 147, .int x1, .int x2, .int x3, .int x4, .int x5, .long l78, pm_dead, .int x8, .int x9, .long l78, pm_dead, .int 0]) (by decide +kernel) (Nat.le_of_ble_eq_true rfl) rfl ?_
                have hk91 : (∀ j : Int, (0) ≤ j → j < (x8.toInt) → 0 ≤ ((A19 158).getD j.toNat 0).toInt ∧ ((A19 158).getD j.toNat 0).toInt ≤ 8) := by
                  intro j h1 h2
                  first
                  | (exfalso; omega)
                  | exact hq22 j (by omega) (by omega)
                refine ML_266_165 hc (by omega) (by omega) (by omega) (by omega) hk91 (fun A92 y94 hIy93 hFhIy93 gy94 hr95 => ?_) 7 A19 0 hIf90 (fun k _ => rfl) (by decide +kernel) (by decide +kernel)
                refine pz_iinc (j := 9) (n := 1) (by decide +kernel) rfl rfl (by decide +kernel) (by omega) (by omega) (fun z96 hz96 => ?_)
                show pmE pg X pg_tyl pg_cl (d + 3) 266 195 [.ref 147, .int x1, .int x2, .int x3, .int x4, .int x5, .long l78, pm_dead, .int x8, .int z96, .long l78, pm_dead, .int y94] [] (md wc f90 A92) _
                refine pe_goto (off := (-174)) (t := 21) (by decide +kernel) (by decide) rfl ?_
                exact ih f90 A92 l78 z96 (.long l78) (.int y94) hIy93 (fun k n23 n24 => (upf_fr ef90 n23).trans ((upf_fr ef32 n24).trans ((hG k n23 n24)))) (fun k n158 n159 => ((hFhIy93 k n159)).trans (((hFq18 k n158)).trans ((upa_fr eA17 n158).trans ((upa_fr eA11 n158).trans ((hF k n158 n159)))))) (by omega) (by omega)
              · skip
                refine pe_goto (off := 43) (t := 192) (by decide +kernel) (by decide) rfl ?_
                refine pz_iinc (j := 9) (n := 1) (by decide +kernel) rfl rfl (by decide +kernel) (by omega) (by omega) (fun z97 hz97 => ?_)
                show pmE pg X pg_tyl pg_cl (d + 3) 266 195 [.ref 147, .int x1, .int x2, .int x3, .int x4, .int x5, .long j6, pm_dead, .int x8, .int z97, .long l78, pm_dead, u12] [] (md wc f32 A19) _
                refine pe_goto (off := (-174)) (t := 21) (by decide +kernel) (by decide) rfl ?_
                exact ih f32 A19 j6 z97 (.long l78) (u12) hIf32 (fun k n23 n24 => (upf_fr ef32 n24).trans ((hG k n23 n24))) (fun k n158 n159 => ((hFq18 k n158)).trans ((upa_fr eA17 n158).trans ((upa_fr eA11 n158).trans ((hF k n158 n159))))) (by omega) (by omega)
        · skip
          refine pe_goto (off := 103) (t := 192) (by decide +kernel) (by decide) rfl ?_
          refine pz_iinc (j := 9) (n := 1) (by decide +kernel) rfl rfl (by decide +kernel) (by omega) (by omega) (fun z98 hz98 => ?_)
          show pmE pg X pg_tyl pg_cl (d + 3) 266 195 [.ref 147, .int x1, .int x2, .int x3, .int x4, .int x5, .long j6, pm_dead, .int x8, .int z98, u10, pm_dead, u12] [] (md wc f A19) _
          refine pe_goto (off := (-174)) (t := 21) (by decide +kernel) (by decide) rfl ?_
          exact ih f A19 j6 z98 (u10) (u12) hIq18 (fun k n23 n24 => (hG k n23 n24)) (fun k n158 n159 => ((hFq18 k n158)).trans ((upa_fr eA17 n158).trans ((upa_fr eA11 n158).trans ((hF k n158 n159))))) (by omega) (by omega)
set_option maxRecDepth 100000 in
set_option maxHeartbeats 8000000 in
theorem ML_266_11 {X : pm_X} {d : Nat} {wc : pm_W} {Q : pm_R → Prop} {f0 : Nat → Int32} {A0 : Nat → List Int32} {x1 x2 x3 x4 x5 : Int32} (hc : wc.length = 147) (gx1 : (610 ≤ x1.toInt ∧ x1.toInt ≤ 742 ∧ (x1.toInt - 610) % 132 = 0)) (gx2 : (0 ≤ x2.toInt ∧ x2.toInt ≤ 6)) (k_204_0 : ∀ (f' : Nat → Int32) (A' : Nat → List Int32) (i6 : Int64) (y8 : Int32) (v9 : Value) (v10 : Value) (v12 : Value), MI f' A' → (∀ k : Nat, k ≠ 23 → k ≠ 24 → f' k = f0 k) → (∀ k : Nat, k ≠ 158 → k ≠ 159 → A' k = A0 k) → (7 ≤ y8.toInt ∧ y8.toInt ≤ 7) → pmE pg X pg_tyl pg_cl (d + 3) 266 204 [.ref 147, .int x1, .int x2, .int x3, .int x4, .int x5, .long i6, pm_dead, .int y8, v9, v10, pm_dead, v12] [] (md wc f' A') Q) : ∀ (m : Nat) (f : Nat → Int32) (A : Nat → List Int32) (j6 : Int64) (x8 : Int32) (u9 : Value) (u10 : Value) (u12 : Value), MI f A → (∀ k : Nat, k ≠ 23 → k ≠ 24 → f k = f0 k) → (∀ k : Nat, k ≠ 158 → k ≠ 159 → A k = A0 k) → (2 ≤ x8.toInt ∧ x8.toInt ≤ 7) → 7 - x8.toInt < (m : Int) → pmE pg X pg_tyl pg_cl (d + 3) 266 11 [.ref 147, .int x1, .int x2, .int x3, .int x4, .int x5, .long j6, pm_dead, .int x8, u9, u10, pm_dead, u12] [] (md wc f A) Q := by
  intro m
  induction m with
  | zero =>
    intro f A j6 x8 u9 u10 u12 hI hG hF gx8 hm
    exfalso
    have l0 := zi_lo x8
    have u0 := zi_hi x8
    omega
  | succ m ih =>
    intro f A j6 x8 u9 u10 u12 hI hG hF gx8 hm
    refine pe_iload (j := 8) (by decide +kernel) rfl ?_
    refine pe_bipushv (n := 7) (v := 7) (by decide +kernel) (by decide +kernel) ?_
    refine pz_icmp_ge (off := 189) (t := 204) (by decide +kernel) (by decide) rfl rfl kz_7 (fun h1 => ?_) (fun h1 => ?_)
    · skip
      exact k_204_0 f A j6 x8 (u9) (u10) (u12) hI (fun k n23 n24 => (hG k n23 n24)) (fun k n158 n159 => (hF k n158 n159)) (by omega)
    · skip
      refine pe_iconstv (n := 0) (v := 0) (by decide +kernel) (by decide +kernel) ?_
      refine pe_istore (j := 9) (ls' := [.ref 147, .int x1, .int x2, .int x3, .int x4, .int x5, .long j6, pm_dead, .int x8, .int 0, u10, pm_dead, u12]) (by decide +kernel) (Nat.le_of_ble_eq_true rfl) rfl ?_
      refine ML_266_21 hc (by omega) (by omega) (by omega) (fun f2 A3 l5 y6 u7 u8 hIy4 hGhIy4 hFhIy4 gy6 => ?_) 2147483648 f A j6 0 (u10) (u12) hI (fun k _ _ => rfl) (fun k _ _ => rfl) (by decide +kernel) (by decide +kernel)
      refine pz_iinc (j := 8) (n := 1) (by decide +kernel) rfl rfl (by decide +kernel) (by omega) (by omega) (fun z9 hz9 => ?_)
      show pmE pg X pg_tyl pg_cl (d + 3) 266 201 [.ref 147, .int x1, .int x2, .int x3, .int x4, .int x5, .long l5, pm_dead, .int z9, .int y6, u7, pm_dead, u8] [] (md wc f2 A3) _
      refine pe_goto (off := (-190)) (t := 11) (by decide +kernel) (by decide) rfl ?_
      exact ih f2 A3 l5 z9 (.int y6) (u7) (u8) hIy4 (fun k n23 n24 => ((hGhIy4 k n23 n24)).trans ((hG k n23 n24))) (fun k n158 n159 => ((hFhIy4 k n158 n159)).trans ((hF k n158 n159))) (by omega) (by omega)
set_option maxRecDepth 100000 in
set_option maxHeartbeats 8000000 in
theorem MM_266 {X : pm_X} {d : Nat} {wc : pm_W} {f : Nat → Int32} {A : Nat → List Int32} {x1 x2 x3 x4 x5 : Int32} (hc : wc.length = 147) (hI : MI f A) (gx1 : (610 ≤ x1.toInt ∧ x1.toInt ≤ 742 ∧ (x1.toInt - 610) % 132 = 0)) (gx2 : (0 ≤ x2.toInt ∧ x2.toInt ≤ 6)) : pmE pg X pg_tyl pg_cl (d + 3) 266 0 (pm_ent (pm_max pg 266) [.ref 147, .int x1, .int x2, .int x3, .int x4, .int x5]) [] (md wc f A) (fun q => ∃ (f' : Nat → Int32) (A' : Nat → List Int32) (r : Int32), q = (some (.int r), md wc f' A', 0, 0) ∧ MI f' A' ∧ (∀ k : Nat, k ≠ 23 → k ≠ 24 → f' k = f k) ∧ (∀ k : Nat, k ≠ 158 → k ≠ 159 → A' k = A k) ∧ ((r = 0 ∧ True) ∨ (r = 1 ∧ True))) := by
  show pmE pg X pg_tyl pg_cl (d + 3) 266 0 [.ref 147, .int x1, .int x2, .int x3, .int x4, .int x5, pm_dead, pm_dead, pm_dead, pm_dead, pm_dead, pm_dead, pm_dead] [] (md wc f A) _
  refine pe_aload_n (j := 0) (by decide +kernel) rfl ?_
  refine pe_iconstv (n := 0) (v := 0) (by decide +kernel) (by decide +kernel) ?_
  refine mz_put23 (jj := 283) (by decide +kernel) (by decide +kernel) hc hI (by decide +kernel) (by decide +kernel) (fun f1 ef1 hIf1 => ?_)
  refine pw_lconst (n := 0) (by decide +kernel) (fun l2 => ?_)
  refine pe_lstore (j := 6) (ls' := [.ref 147, .int x1, .int x2, .int x3, .int x4, .int x5, .long l2, pm_dead, pm_dead, pm_dead, pm_dead, pm_dead, pm_dead]) (by decide +kernel) (Nat.le_of_ble_eq_true rfl) rfl ?_
  refine pe_iconstv (n := 2) (v := 2) (by decide +kernel) (by decide +kernel) ?_
  refine pe_istore (j := 8) (ls' := [.ref 147, .int x1, .int x2, .int x3, .int x4, .int x5, .long l2, pm_dead, .int 2, pm_dead, pm_dead, pm_dead, pm_dead]) (by decide +kernel) (Nat.le_of_ble_eq_true rfl) rfl ?_
  refine ML_266_11 hc (by omega) (by omega) (fun f3 A4 l6 y7 u8 u9 u10 hIy5 hGhIy5 hFhIy5 gy7 => ?_) 6 f1 A l2 2 (pm_dead) (pm_dead) (pm_dead) hIf1 (fun k _ _ => rfl) (fun k _ _ => rfl) (by decide +kernel) (by decide +kernel)
  refine pe_aload_n (j := 0) (by decide +kernel) rfl ?_
  refine pe_get (j := 283) (ci := 12) (n := 23) (by decide +kernel) (by decide +kernel) (md_o hc) rfl ?_
  have hr_23_f3 := hIy5.1 23
  simp only [MF] at hr_23_f3
  refine pz_if_le (off := 7) (t := 215) (by decide +kernel) (by decide) rfl rfl (fun h11 => ?_) (fun h11 => ?_)
  · skip
    refine pe_iconstv (n := 0) (v := 0) (by decide +kernel) (by decide +kernel) ?_
    exact pe_iret (by decide +kernel) rfl rfl ⟨f3, A4, 0, rfl, hIy5, (fun k n23 n24 => ((hGhIy5 k n23 n24)).trans (upf_fr ef1 n23)), (fun k n158 n159 => (hFhIy5 k n158 n159)), Or.inl ⟨rfl, trivial⟩⟩
  · skip
    refine pe_iconstv (n := 1) (v := 1) (by decide +kernel) (by decide +kernel) ?_
    refine pe_goto (off := 4) (t := 216) (by decide +kernel) (by decide) rfl ?_
    exact pe_iret (by decide +kernel) rfl rfl ⟨f3, A4, 1, rfl, hIy5, (fun k n23 n24 => ((hGhIy5 k n23 n24)).trans (upf_fr ef1 n23)), (fun k n158 n159 => (hFhIy5 k n158 n159)), Or.inr (⟨rfl, trivial⟩)⟩
end
section
set_option maxRecDepth 100000 in
set_option maxHeartbeats 8000000 in
theorem MM_218 {X : pm_X} {d : Nat} {wc : pm_W} {f : Nat → Int32} {A : Nat → List Int32} {x1 : Int32} (hc : wc.length = 147) (hI : MI f A) : pmE pg X pg_tyl pg_cl (d) 218 0 (pm_ent (pm_max pg 218) [.ref 147, .int x1]) [] (md wc f A) (fun q => ∃ (r : Int32), q = (some (.int r), md wc f A, 0, 0) ∧ ((True ∧ True))) := by
  show pmE pg X pg_tyl pg_cl (d) 218 0 [.ref 147, .int x1] [] (md wc f A) _
  refine pe_iload_n (j := 1) (by decide +kernel) rfl ?_
  have lw2 := zi_lo x1
  have uw2 := zi_hi x1
  refine pz_if_ne (off := 12) (t := 13) (by decide +kernel) (by decide) rfl rfl (fun h1 => ?_) (fun h1 => ?_)
  · skip
    refine pe_iload_n (j := 1) (by decide +kernel) rfl ?_
    refine pe_iconstv (n := 1) (v := 1) (by decide +kernel) (by decide +kernel) ?_
    refine pz_icmp_ne (off := 12) (t := 27) (by decide +kernel) (by decide) rfl rfl kz_1 (fun h3 => ?_) (fun h3 => ?_)
    · skip
      refine pe_iconstv (n := (-1)) (v := (-1)) (by decide +kernel) (by decide +kernel) ?_
      exact pe_iret (by decide +kernel) rfl rfl ⟨(-1), rfl, ⟨trivial, trivial⟩⟩
    · skip
      refine pe_aload_n (j := 0) (by decide +kernel) rfl ?_
      refine pe_get (j := 7) (ci := 12) (n := 0) (by decide +kernel) (by decide +kernel) (md_o hc) rfl ?_
      refine pe_iconstv (n := 4) (v := 4) (by decide +kernel) (by decide +kernel) ?_
      refine mz_ld148 (by decide +kernel) hc hI kz_4 (by omega) (by omega) (fun v4 ev4 pv4 => ?_)
      clear pv4
      refine pe_goto (off := 4) (t := 28) (by decide +kernel) (by decide) rfl ?_
      exact pe_iret (by decide +kernel) rfl rfl ⟨v4, rfl, ⟨trivial, trivial⟩⟩
  · skip
    refine pe_aload_n (j := 0) (by decide +kernel) rfl ?_
    refine pe_get (j := 7) (ci := 12) (n := 0) (by decide +kernel) (by decide +kernel) (md_o hc) rfl ?_
    refine pe_iconstv (n := 3) (v := 3) (by decide +kernel) (by decide +kernel) ?_
    refine mz_ld148 (by decide +kernel) hc hI kz_3 (by omega) (by omega) (fun v5 ev5 pv5 => ?_)
    clear pv5
    refine pe_goto (off := 18) (t := 28) (by decide +kernel) (by decide) rfl ?_
    exact pe_iret (by decide +kernel) rfl rfl ⟨v5, rfl, ⟨trivial, trivial⟩⟩
set_option maxRecDepth 100000 in
set_option maxHeartbeats 8000000 in
theorem MM_315 {X : pm_X} {d : Nat} {wc : pm_W} {f : Nat → Int32} {A : Nat → List Int32} {x1 : Int32} (hc : wc.length = 147) (hI : MI f A) : pmE pg X pg_tyl pg_cl (d + 1) 315 0 (pm_ent (pm_max pg 315) [.ref 147, .int x1]) [] (md wc f A) (fun q => ∃ (r : Int32), q = (some (.int r), md wc f A, 0, 0) ∧ ((((-2) ≤ r.toInt ∧ r.toInt ≤ 3) ∧ True))) := by
  show pmE pg X pg_tyl pg_cl (d + 1) 315 0 [.ref 147, .int x1] [] (md wc f A) _
  refine pe_iload_n (j := 1) (by decide +kernel) rfl ?_
  refine pe_iconstv (n := 0) (v := 0) (by decide +kernel) (by decide +kernel) ?_
  refine pe_iconstv (n := 1) (v := 1) (by decide +kernel) (by decide +kernel) ?_
  refine pi_S (j := 119) (mj := 199) (by decide +kernel) (by decide +kernel) rfl ?_
  show pmE pg X pg_tyl pg_cl (d) 199 0 [.int x1, .int 0, .int 1] [] (md wc f A) _
  refine pe_iload_n (j := 0) (by decide +kernel) rfl ?_
  refine pe_iload_n (j := 1) (by decide +kernel) rfl ?_
  have lw2 := zi_lo x1
  have uw2 := zi_hi x1
  refine pz_icmp_lt (off := 12) (t := 14) (by decide +kernel) (by decide) rfl rfl kz_0 (fun h1 => ?_) (fun h1 => ?_)
  · skip
    refine pe_iconstv (n := 0) (v := 0) (by decide +kernel) (by decide +kernel) ?_
    refine pe_iret (by decide +kernel) rfl rfl ⟨rfl, rfl, ?_⟩
    show pmE pg X pg_tyl pg_cl (d + 1) 315 6 [.ref 147, .int x1] [.int 0] (md wc f A) _
    refine pz_if_eq (off := 12) (t := 18) (by decide +kernel) (by decide) rfl kz_0 (fun h3 => ?_) (fun h3 => by omega)
    refine pe_bipushv (n := (-2)) (v := (-2)) (by decide +kernel) (by decide +kernel) ?_
    exact pe_iret (by decide +kernel) rfl rfl ⟨(-2), rfl, ⟨(by decide +kernel), trivial⟩⟩
  · skip
    refine pe_iload_n (j := 0) (by decide +kernel) rfl ?_
    refine pe_iload_n (j := 2) (by decide +kernel) rfl ?_
    refine pz_icmp_gt (off := 7) (t := 14) (by decide +kernel) (by decide) rfl rfl kz_1 (fun h4 => ?_) (fun h4 => ?_)
    · skip
      refine pe_iconstv (n := 0) (v := 0) (by decide +kernel) (by decide +kernel) ?_
      refine pe_iret (by decide +kernel) rfl rfl ⟨rfl, rfl, ?_⟩
      show pmE pg X pg_tyl pg_cl (d + 1) 315 6 [.ref 147, .int x1] [.int 0] (md wc f A) _
      refine pz_if_eq (off := 12) (t := 18) (by decide +kernel) (by decide) rfl kz_0 (fun h5 => ?_) (fun h5 => by omega)
      refine pe_bipushv (n := (-2)) (v := (-2)) (by decide +kernel) (by decide +kernel) ?_
      exact pe_iret (by decide +kernel) rfl rfl ⟨(-2), rfl, ⟨(by decide +kernel), trivial⟩⟩
    · skip
      refine pe_iconstv (n := 1) (v := 1) (by decide +kernel) (by decide +kernel) ?_
      refine pe_goto (off := 4) (t := 15) (by decide +kernel) (by decide) rfl ?_
      refine pe_iret (by decide +kernel) rfl rfl ⟨rfl, rfl, ?_⟩
      show pmE pg X pg_tyl pg_cl (d + 1) 315 6 [.ref 147, .int x1] [.int 1] (md wc f A) _
      refine pz_if_eq (off := 12) (t := 18) (by decide +kernel) (by decide) rfl kz_1 (fun h6 => by omega) (fun h6 => ?_)
      refine pe_aload_n (j := 0) (by decide +kernel) rfl ?_
      refine pe_get (j := 7) (ci := 12) (n := 0) (by decide +kernel) (by decide +kernel) (md_o hc) rfl ?_
      refine pe_iload_n (j := 1) (by decide +kernel) rfl ?_
      refine mz_ld148 (by decide +kernel) hc hI rfl (by omega) (by omega) (fun v7 ev7 pv7 => ?_)
      have rv7 : 0 ≤ v7.toInt ∧ v7.toInt ≤ 3 := by have p := pv7; simp only [MT] at p; omega
      clear pv7
      refine pe_goto (off := 5) (t := 20) (by decide +kernel) (by decide) rfl ?_
      exact pe_iret (by decide +kernel) rfl rfl ⟨v7, rfl, ⟨(by omega), trivial⟩⟩
set_option maxRecDepth 100000 in
set_option maxHeartbeats 8000000 in
theorem MM_219 {X : pm_X} {d : Nat} {wc : pm_W} {f : Nat → Int32} {A : Nat → List Int32} {x1 x2 : Int32} (hc : wc.length = 147) (hI : MI f A) : pmE pg X pg_tyl pg_cl (d + 2) 219 0 (pm_ent (pm_max pg 219) [.ref 147, .int x1, .int x2]) [] (md wc f A) (fun q => ∃ (r : Int32), q = (some (.int r), md wc f A, 0, 0) ∧ ((True ∧ True))) := by
  show pmE pg X pg_tyl pg_cl (d + 2) 219 0 [.ref 147, .int x1, .int x2, pm_dead] [] (md wc f A) _
  refine pe_aload_n (j := 0) (by decide +kernel) rfl ?_
  refine pe_iconstv (n := 0) (v := 0) (by decide +kernel) (by decide +kernel) ?_
  refine pe_iload_n (j := 1) (by decide +kernel) rfl ?_
  refine pi_V (j := 153) (mj := 200) (by decide +kernel) (cll_V (args := [.int x1, .int 0]) (n := 2) (by decide +kernel) rfl rfl (md_o hc) (by decide +kernel) (Nat.le_of_ble_eq_true rfl) (Nat.le_of_ble_eq_true rfl)) ?_
  show pmE pg X pg_tyl pg_cl (d + 1) 200 0 [.ref 147, .int 0, .int x1] [] (md wc f A) _
  refine pe_iload_n (j := 2) (by decide +kernel) rfl ?_
  refine pe_iconstv (n := 0) (v := 0) (by decide +kernel) (by decide +kernel) ?_
  refine pe_aload_n (j := 0) (by decide +kernel) rfl ?_
  refine pe_get (j := 7) (ci := 12) (n := 0) (by decide +kernel) (by decide +kernel) (md_o hc) rfl ?_
  refine pe_iload_n (j := 1) (by decide +kernel) rfl ?_
  refine mz_ld148 (by decide +kernel) hc hI kz_0 (by omega) (by omega) (fun v1 ev1 pv1 => ?_)
  have rv1 : 0 ≤ v1.toInt ∧ v1.toInt ≤ 2 := MT_c0 pv1 (by omega)
  clear pv1
  refine pe_iconstv (n := 1) (v := 1) (by decide +kernel) (by decide +kernel) ?_
  refine pz_sub (by decide +kernel) rfl kz_1 (by omega) (by omega) (fun z2 hz2 => ?_)
  refine pi_S (j := 119) (mj := 199) (by decide +kernel) (by decide +kernel) rfl ?_
  show pmE pg X pg_tyl pg_cl (d) 199 0 [.int x1, .int 0, .int z2] [] (md wc f A) _
  refine pe_iload_n (j := 0) (by decide +kernel) rfl ?_
  refine pe_iload_n (j := 1) (by decide +kernel) rfl ?_
  have lw4 := zi_lo x1
  have uw4 := zi_hi x1
  refine pz_icmp_lt (off := 12) (t := 14) (by decide +kernel) (by decide) rfl rfl kz_0 (fun h3 => ?_) (fun h3 => ?_)
  · skip
    refine pe_iconstv (n := 0) (v := 0) (by decide +kernel) (by decide +kernel) ?_
    refine pe_iret (by decide +kernel) rfl rfl ⟨rfl, rfl, ?_⟩
    show pmE pg X pg_tyl pg_cl (d + 1) 200 13 [.ref 147, .int 0, .int x1] [.int 0] (md wc f A) _
    refine pe_iret (by decide +kernel) rfl rfl ⟨rfl, rfl, ?_⟩
    show pmE pg X pg_tyl pg_cl (d + 2) 219 6 [.ref 147, .int x1, .int x2, pm_dead] [.int 0] (md wc f A) _
    refine pz_if_ne (off := 5) (t := 11) (by decide +kernel) (by decide) rfl kz_0 (fun h5 => by omega) (fun h5 => ?_)
    refine pe_iconstv (n := (-1)) (v := (-1)) (by decide +kernel) (by decide +kernel) ?_
    exact pe_iret (by decide +kernel) rfl rfl ⟨(-1), rfl, ⟨trivial, trivial⟩⟩
  · skip
    refine pe_iload_n (j := 0) (by decide +kernel) rfl ?_
    refine pe_iload_n (j := 2) (by decide +kernel) rfl ?_
    refine pz_icmp_gt (off := 7) (t := 14) (by decide +kernel) (by decide) rfl rfl hz2 (fun h6 => ?_) (fun h6 => ?_)
    · skip
      refine pe_iconstv (n := 0) (v := 0) (by decide +kernel) (by decide +kernel) ?_
      refine pe_iret (by decide +kernel) rfl rfl ⟨rfl, rfl, ?_⟩
      show pmE pg X pg_tyl pg_cl (d + 1) 200 13 [.ref 147, .int 0, .int x1] [.int 0] (md wc f A) _
      refine pe_iret (by decide +kernel) rfl rfl ⟨rfl, rfl, ?_⟩
      show pmE pg X pg_tyl pg_cl (d + 2) 219 6 [.ref 147, .int x1, .int x2, pm_dead] [.int 0] (md wc f A) _
      refine pz_if_ne (off := 5) (t := 11) (by decide +kernel) (by decide) rfl kz_0 (fun h7 => by omega) (fun h7 => ?_)
      refine pe_iconstv (n := (-1)) (v := (-1)) (by decide +kernel) (by decide +kernel) ?_
      exact pe_iret (by decide +kernel) rfl rfl ⟨(-1), rfl, ⟨trivial, trivial⟩⟩
    · skip
      refine pe_iconstv (n := 1) (v := 1) (by decide +kernel) (by decide +kernel) ?_
      refine pe_goto (off := 4) (t := 15) (by decide +kernel) (by decide) rfl ?_
      refine pe_iret (by decide +kernel) rfl rfl ⟨rfl, rfl, ?_⟩
      show pmE pg X pg_tyl pg_cl (d + 1) 200 13 [.ref 147, .int 0, .int x1] [.int 1] (md wc f A) _
      refine pe_iret (by decide +kernel) rfl rfl ⟨rfl, rfl, ?_⟩
      show pmE pg X pg_tyl pg_cl (d + 2) 219 6 [.ref 147, .int x1, .int x2, pm_dead] [.int 1] (md wc f A) _
      refine pz_if_ne (off := 5) (t := 11) (by decide +kernel) (by decide) rfl kz_1 (fun h8 => ?_) (fun h8 => by omega)
      refine pe_iconstv (n := 0) (v := 0) (by decide +kernel) (by decide +kernel) ?_
      refine pe_iload_n (j := 1) (by decide +kernel) rfl ?_
      refine pi_S (j := 163) (mj := 217) (by decide +kernel) (by decide +kernel) rfl ?_
      show pmE pg X pg_tyl pg_cl (d + 1) 217 0 [.int 0, .int x1] [] (md wc f A) _
      refine pe_iload_n (j := 0) (by decide +kernel) rfl ?_
      refine pz_if_ne (off := 15) (t := 16) (by decide +kernel) (by decide) rfl kz_0 (fun h9 => by omega) (fun h9 => ?_)
      refine pe_sipushv (n := 610) (v := 610) (by decide +kernel) (by decide +kernel) ?_
      refine pe_sipushv (n := 132) (v := 132) (by decide +kernel) (by decide +kernel) ?_
      refine pe_iload_n (j := 1) (by decide +kernel) rfl ?_
      refine pz_mul (by decide +kernel) kz_132 rfl (by omega) (by omega) (fun z10 hz10 => ?_)
      refine pz_add (by decide +kernel) kz_610 hz10 (by omega) (by omega) (fun z11 hz11 => ?_)
      clear hz10
      refine pe_goto (off := 12) (t := 25) (by decide +kernel) (by decide) rfl ?_
      refine pe_iret (by decide +kernel) rfl rfl ⟨rfl, rfl, ?_⟩
      show pmE pg X pg_tyl pg_cl (d + 2) 219 16 [.ref 147, .int x1, .int x2, pm_dead] [.int z11] (md wc f A) _
      refine pe_istore_n (j := 3) (ls' := [.ref 147, .int x1, .int x2, .int z11]) (by decide +kernel) (Nat.le_of_ble_eq_true rfl) rfl ?_
      refine pe_iload_n (j := 2) (by decide +kernel) rfl ?_
      refine pe_iconstv (n := 0) (v := 0) (by decide +kernel) (by decide +kernel) ?_
      refine pe_iconstv (n := 2) (v := 2) (by decide +kernel) (by decide +kernel) ?_
      refine pi_S (j := 119) (mj := 199) (by decide +kernel) (by decide +kernel) rfl ?_
      show pmE pg X pg_tyl pg_cl (d + 1) 199 0 [.int x2, .int 0, .int 2] [] (md wc f A) _
      refine pe_iload_n (j := 0) (by decide +kernel) rfl ?_
      refine pe_iload_n (j := 1) (by decide +kernel) rfl ?_
      have lw13 := zi_lo x2
      have uw13 := zi_hi x2
      refine pz_icmp_lt (off := 12) (t := 14) (by decide +kernel) (by decide) rfl rfl kz_0 (fun h12 => ?_) (fun h12 => ?_)
      · skip
        refine pe_iconstv (n := 0) (v := 0) (by decide +kernel) (by decide +kernel) ?_
        refine pe_iret (by decide +kernel) rfl rfl ⟨rfl, rfl, ?_⟩
        show pmE pg X pg_tyl pg_cl (d + 2) 219 23 [.ref 147, .int x1, .int x2, .int z11] [.int 0] (md wc f A) _
        refine pz_if_eq (off := 12) (t := 35) (by decide +kernel) (by decide) rfl kz_0 (fun h14 => ?_) (fun h14 => by omega)
        refine pe_iload_n (j := 2) (by decide +kernel) rfl ?_
        refine pe_bipushv (n := 10) (v := 10) (by decide +kernel) (by decide +kernel) ?_
        refine pe_bipushv (n := 9) (v := 9) (by decide +kernel) (by decide +kernel) ?_
        refine pe_aload_n (j := 0) (by decide +kernel) rfl ?_
        refine pe_get (j := 7) (ci := 12) (n := 0) (by decide +kernel) (by decide +kernel) (md_o hc) rfl ?_
        refine pe_iload_n (j := 3) (by decide +kernel) rfl ?_
        refine mz_ld148 (by decide +kernel) hc hI hz11 (by omega) (by omega) (fun v15 ev15 pv15 => ?_)
        have rv15 : 0 ≤ v15.toInt ∧ v15.toInt ≤ 9 := MT_people pv15 (by omega)
        clear pv15
        refine pz_add (by decide +kernel) kz_9 rfl (by omega) (by omega) (fun z16 hz16 => ?_)
        refine pi_S (j := 119) (mj := 199) (by decide +kernel) (by decide +kernel) rfl ?_
        show pmE pg X pg_tyl pg_cl (d + 1) 199 0 [.int x2, .int 10, .int z16] [] (md wc f A) _
        refine pe_iload_n (j := 0) (by decide +kernel) rfl ?_
        refine pe_iload_n (j := 1) (by decide +kernel) rfl ?_
        refine pz_icmp_lt (off := 12) (t := 14) (by decide +kernel) (by decide) rfl rfl kz_10 (fun h17 => ?_) (fun h17 => by omega)
        refine pe_iconstv (n := 0) (v := 0) (by decide +kernel) (by decide +kernel) ?_
        refine pe_iret (by decide +kernel) rfl rfl ⟨rfl, rfl, ?_⟩
        show pmE pg X pg_tyl pg_cl (d + 2) 219 50 [.ref 147, .int x1, .int x2, .int z11] [.int 0] (md wc f A) _
        refine pz_if_eq (off := 18) (t := 68) (by decide +kernel) (by decide) rfl kz_0 (fun h18 => ?_) (fun h18 => by omega)
        refine pe_iload_n (j := 2) (by decide +kernel) rfl ?_
        refine pe_bipushv (n := 20) (v := 20) (by decide +kernel) (by decide +kernel) ?_
        refine pe_bipushv (n := 19) (v := 19) (by decide +kernel) (by decide +kernel) ?_
        refine pe_aload_n (j := 0) (by decide +kernel) rfl ?_
        refine pe_get (j := 7) (ci := 12) (n := 0) (by decide +kernel) (by decide +kernel) (md_o hc) rfl ?_
        refine pe_iload_n (j := 3) (by decide +kernel) rfl ?_
        refine mz_ld148 (by decide +kernel) hc hI hz11 (by omega) (by omega) (fun v19 ev19 pv19 => ?_)
        rw [ev19.trans ev15.symm]
        clear pv19 ev19 v19
        refine pz_add (by decide +kernel) kz_19 rfl (by omega) (by omega) (fun z20 hz20 => ?_)
        refine pi_S (j := 119) (mj := 199) (by decide +kernel) (by decide +kernel) rfl ?_
        show pmE pg X pg_tyl pg_cl (d + 1) 199 0 [.int x2, .int 20, .int z20] [] (md wc f A) _
        refine pe_iload_n (j := 0) (by decide +kernel) rfl ?_
        refine pe_iload_n (j := 1) (by decide +kernel) rfl ?_
        refine pz_icmp_lt (off := 12) (t := 14) (by decide +kernel) (by decide) rfl rfl kz_20 (fun h21 => ?_) (fun h21 => by omega)
        refine pe_iconstv (n := 0) (v := 0) (by decide +kernel) (by decide +kernel) ?_
        refine pe_iret (by decide +kernel) rfl rfl ⟨rfl, rfl, ?_⟩
        show pmE pg X pg_tyl pg_cl (d + 2) 219 83 [.ref 147, .int x1, .int x2, .int z11] [.int 0] (md wc f A) _
        refine pz_if_eq (off := 20) (t := 103) (by decide +kernel) (by decide) rfl kz_0 (fun h22 => ?_) (fun h22 => by omega)
        refine pe_iconstv (n := (-1)) (v := (-1)) (by decide +kernel) (by decide +kernel) ?_
        exact pe_iret (by decide +kernel) rfl rfl ⟨(-1), rfl, ⟨trivial, trivial⟩⟩
      · skip
        refine pe_iload_n (j := 0) (by decide +kernel) rfl ?_
        refine pe_iload_n (j := 2) (by decide +kernel) rfl ?_
        refine pz_icmp_gt (off := 7) (t := 14) (by decide +kernel) (by decide) rfl rfl kz_2 (fun h23 => ?_) (fun h23 => ?_)
        · skip
          refine pe_iconstv (n := 0) (v := 0) (by decide +kernel) (by decide +kernel) ?_
          refine pe_iret (by decide +kernel) rfl rfl ⟨rfl, rfl, ?_⟩
          show pmE pg X pg_tyl pg_cl (d + 2) 219 23 [.ref 147, .int x1, .int x2, .int z11] [.int 0] (md wc f A) _
          refine pz_if_eq (off := 12) (t := 35) (by decide +kernel) (by decide) rfl kz_0 (fun h24 => ?_) (fun h24 => by omega)
          refine pe_iload_n (j := 2) (by decide +kernel) rfl ?_
          refine pe_bipushv (n := 10) (v := 10) (by decide +kernel) (by decide +kernel) ?_
          refine pe_bipushv (n := 9) (v := 9) (by decide +kernel) (by decide +kernel) ?_
          refine pe_aload_n (j := 0) (by decide +kernel) rfl ?_
          refine pe_get (j := 7) (ci := 12) (n := 0) (by decide +kernel) (by decide +kernel) (md_o hc) rfl ?_
          refine pe_iload_n (j := 3) (by decide +kernel) rfl ?_
          refine mz_ld148 (by decide +kernel) hc hI hz11 (by omega) (by omega) (fun v25 ev25 pv25 => ?_)
          have rv25 : 0 ≤ v25.toInt ∧ v25.toInt ≤ 9 := MT_people pv25 (by omega)
          clear pv25
          refine pz_add (by decide +kernel) kz_9 rfl (by omega) (by omega) (fun z26 hz26 => ?_)
          refine pi_S (j := 119) (mj := 199) (by decide +kernel) (by decide +kernel) rfl ?_
          show pmE pg X pg_tyl pg_cl (d + 1) 199 0 [.int x2, .int 10, .int z26] [] (md wc f A) _
          refine pe_iload_n (j := 0) (by decide +kernel) rfl ?_
          refine pe_iload_n (j := 1) (by decide +kernel) rfl ?_
          refine pz_icmp_lt (off := 12) (t := 14) (by decide +kernel) (by decide) rfl rfl kz_10 (fun h27 => ?_) (fun h27 => ?_)
          · skip
            refine pe_iconstv (n := 0) (v := 0) (by decide +kernel) (by decide +kernel) ?_
            refine pe_iret (by decide +kernel) rfl rfl ⟨rfl, rfl, ?_⟩
            show pmE pg X pg_tyl pg_cl (d + 2) 219 50 [.ref 147, .int x1, .int x2, .int z11] [.int 0] (md wc f A) _
            refine pz_if_eq (off := 18) (t := 68) (by decide +kernel) (by decide) rfl kz_0 (fun h28 => ?_) (fun h28 => by omega)
            refine pe_iload_n (j := 2) (by decide +kernel) rfl ?_
            refine pe_bipushv (n := 20) (v := 20) (by decide +kernel) (by decide +kernel) ?_
            refine pe_bipushv (n := 19) (v := 19) (by decide +kernel) (by decide +kernel) ?_
            refine pe_aload_n (j := 0) (by decide +kernel) rfl ?_
            refine pe_get (j := 7) (ci := 12) (n := 0) (by decide +kernel) (by decide +kernel) (md_o hc) rfl ?_
            refine pe_iload_n (j := 3) (by decide +kernel) rfl ?_
            refine mz_ld148 (by decide +kernel) hc hI hz11 (by omega) (by omega) (fun v29 ev29 pv29 => ?_)
            rw [ev29.trans ev25.symm]
            clear pv29 ev29 v29
            refine pz_add (by decide +kernel) kz_19 rfl (by omega) (by omega) (fun z30 hz30 => ?_)
            refine pi_S (j := 119) (mj := 199) (by decide +kernel) (by decide +kernel) rfl ?_
            show pmE pg X pg_tyl pg_cl (d + 1) 199 0 [.int x2, .int 20, .int z30] [] (md wc f A) _
            refine pe_iload_n (j := 0) (by decide +kernel) rfl ?_
            refine pe_iload_n (j := 1) (by decide +kernel) rfl ?_
            refine pz_icmp_lt (off := 12) (t := 14) (by decide +kernel) (by decide) rfl rfl kz_20 (fun h31 => ?_) (fun h31 => by omega)
            refine pe_iconstv (n := 0) (v := 0) (by decide +kernel) (by decide +kernel) ?_
            refine pe_iret (by decide +kernel) rfl rfl ⟨rfl, rfl, ?_⟩
            show pmE pg X pg_tyl pg_cl (d + 2) 219 83 [.ref 147, .int x1, .int x2, .int z11] [.int 0] (md wc f A) _
            refine pz_if_eq (off := 20) (t := 103) (by decide +kernel) (by decide) rfl kz_0 (fun h32 => ?_) (fun h32 => by omega)
            refine pe_iconstv (n := (-1)) (v := (-1)) (by decide +kernel) (by decide +kernel) ?_
            exact pe_iret (by decide +kernel) rfl rfl ⟨(-1), rfl, ⟨trivial, trivial⟩⟩
          · skip
            refine pe_iload_n (j := 0) (by decide +kernel) rfl ?_
            refine pe_iload_n (j := 2) (by decide +kernel) rfl ?_
            refine pz_icmp_gt (off := 7) (t := 14) (by decide +kernel) (by decide) rfl rfl hz26 (fun h33 => ?_) (fun h33 => ?_)
            · skip
              refine pe_iconstv (n := 0) (v := 0) (by decide +kernel) (by decide +kernel) ?_
              refine pe_iret (by decide +kernel) rfl rfl ⟨rfl, rfl, ?_⟩
              show pmE pg X pg_tyl pg_cl (d + 2) 219 50 [.ref 147, .int x1, .int x2, .int z11] [.int 0] (md wc f A) _
              refine pz_if_eq (off := 18) (t := 68) (by decide +kernel) (by decide) rfl kz_0 (fun h34 => ?_) (fun h34 => by omega)
              refine pe_iload_n (j := 2) (by decide +kernel) rfl ?_
              refine pe_bipushv (n := 20) (v := 20) (by decide +kernel) (by decide +kernel) ?_
              refine pe_bipushv (n := 19) (v := 19) (by decide +kernel) (by decide +kernel) ?_
              refine pe_aload_n (j := 0) (by decide +kernel) rfl ?_
              refine pe_get (j := 7) (ci := 12) (n := 0) (by decide +kernel) (by decide +kernel) (md_o hc) rfl ?_
              refine pe_iload_n (j := 3) (by decide +kernel) rfl ?_
              refine mz_ld148 (by decide +kernel) hc hI hz11 (by omega) (by omega) (fun v35 ev35 pv35 => ?_)
              rw [ev35.trans ev25.symm]
              clear pv35 ev35 v35
              refine pz_add (by decide +kernel) kz_19 rfl (by omega) (by omega) (fun z36 hz36 => ?_)
              refine pi_S (j := 119) (mj := 199) (by decide +kernel) (by decide +kernel) rfl ?_
              show pmE pg X pg_tyl pg_cl (d + 1) 199 0 [.int x2, .int 20, .int z36] [] (md wc f A) _
              refine pe_iload_n (j := 0) (by decide +kernel) rfl ?_
              refine pe_iload_n (j := 1) (by decide +kernel) rfl ?_
              refine pz_icmp_lt (off := 12) (t := 14) (by decide +kernel) (by decide) rfl rfl kz_20 (fun h37 => ?_) (fun h37 => ?_)
              · skip
                refine pe_iconstv (n := 0) (v := 0) (by decide +kernel) (by decide +kernel) ?_
                refine pe_iret (by decide +kernel) rfl rfl ⟨rfl, rfl, ?_⟩
                show pmE pg X pg_tyl pg_cl (d + 2) 219 83 [.ref 147, .int x1, .int x2, .int z11] [.int 0] (md wc f A) _
                refine pz_if_eq (off := 20) (t := 103) (by decide +kernel) (by decide) rfl kz_0 (fun h38 => ?_) (fun h38 => by omega)
                refine pe_iconstv (n := (-1)) (v := (-1)) (by decide +kernel) (by decide +kernel) ?_
                exact pe_iret (by decide +kernel) rfl rfl ⟨(-1), rfl, ⟨trivial, trivial⟩⟩
              · skip
                refine pe_iload_n (j := 0) (by decide +kernel) rfl ?_
                refine pe_iload_n (j := 2) (by decide +kernel) rfl ?_
                refine pz_icmp_gt (off := 7) (t := 14) (by decide +kernel) (by decide) rfl rfl hz36 (fun h39 => ?_) (fun h39 => ?_)
                · skip
                  refine pe_iconstv (n := 0) (v := 0) (by decide +kernel) (by decide +kernel) ?_
                  refine pe_iret (by decide +kernel) rfl rfl ⟨rfl, rfl, ?_⟩
                  show pmE pg X pg_tyl pg_cl (d + 2) 219 83 [.ref 147, .int x1, .int x2, .int z11] [.int 0] (md wc f A) _
                  refine pz_if_eq (off := 20) (t := 103) (by decide +kernel) (by decide) rfl kz_0 (fun h40 => ?_) (fun h40 => by omega)
                  refine pe_iconstv (n := (-1)) (v := (-1)) (by decide +kernel) (by decide +kernel) ?_
                  exact pe_iret (by decide +kernel) rfl rfl ⟨(-1), rfl, ⟨trivial, trivial⟩⟩
                · skip
                  refine pe_iconstv (n := 1) (v := 1) (by decide +kernel) (by decide +kernel) ?_
                  refine pe_goto (off := 4) (t := 15) (by decide +kernel) (by decide) rfl ?_
                  refine pe_iret (by decide +kernel) rfl rfl ⟨rfl, rfl, ?_⟩
                  show pmE pg X pg_tyl pg_cl (d + 2) 219 83 [.ref 147, .int x1, .int x2, .int z11] [.int 1] (md wc f A) _
                  refine pz_if_eq (off := 20) (t := 103) (by decide +kernel) (by decide) rfl kz_1 (fun h41 => by omega) (fun h41 => ?_)
                  refine pe_aload_n (j := 0) (by decide +kernel) rfl ?_
                  refine pe_get (j := 7) (ci := 12) (n := 0) (by decide +kernel) (by decide +kernel) (md_o hc) rfl ?_
                  refine pe_iload_n (j := 3) (by decide +kernel) rfl ?_
                  refine pe_bipushv (n := 93) (v := 93) (by decide +kernel) (by decide +kernel) ?_
                  refine pz_add (by decide +kernel) hz11 kz_93 (by omega) (by omega) (fun z42 hz42 => ?_)
                  refine pe_iload_n (j := 2) (by decide +kernel) rfl ?_
                  refine pz_add (by decide +kernel) hz42 rfl (by omega) (by omega) (fun z43 hz43 => ?_)
                  clear hz42
                  refine pe_bipushv (n := 20) (v := 20) (by decide +kernel) (by decide +kernel) ?_
                  refine pz_sub (by decide +kernel) hz43 kz_20 (by omega) (by omega) (fun z44 hz44 => ?_)
                  clear hz43
                  refine mz_ld148 (by decide +kernel) hc hI hz44 (by omega) (by omega) (fun v45 ev45 pv45 => ?_)
                  clear pv45
                  clear hz44
                  refine pe_goto (off := 4) (t := 104) (by decide +kernel) (by decide) rfl ?_
                  exact pe_iret (by decide +kernel) rfl rfl ⟨v45, rfl, ⟨trivial, trivial⟩⟩
            · skip
              refine pe_iconstv (n := 1) (v := 1) (by decide +kernel) (by decide +kernel) ?_
              refine pe_goto (off := 4) (t := 15) (by decide +kernel) (by decide) rfl ?_
              refine pe_iret (by decide +kernel) rfl rfl ⟨rfl, rfl, ?_⟩
              show pmE pg X pg_tyl pg_cl (d + 2) 219 50 [.ref 147, .int x1, .int x2, .int z11] [.int 1] (md wc f A) _
              refine pz_if_eq (off := 18) (t := 68) (by decide +kernel) (by decide) rfl kz_1 (fun h46 => by omega) (fun h46 => ?_)
              refine pe_aload_n (j := 0) (by decide +kernel) rfl ?_
              refine pe_get (j := 7) (ci := 12) (n := 0) (by decide +kernel) (by decide +kernel) (md_o hc) rfl ?_
              refine pe_iload_n (j := 3) (by decide +kernel) rfl ?_
              refine pe_bipushv (n := 84) (v := 84) (by decide +kernel) (by decide +kernel) ?_
              refine pz_add (by decide +kernel) hz11 kz_84 (by omega) (by omega) (fun z47 hz47 => ?_)
              refine pe_iload_n (j := 2) (by decide +kernel) rfl ?_
              refine pz_add (by decide +kernel) hz47 rfl (by omega) (by omega) (fun z48 hz48 => ?_)
              clear hz47
              refine pe_bipushv (n := 10) (v := 10) (by decide +kernel) (by decide +kernel) ?_
              refine pz_sub (by decide +kernel) hz48 kz_10 (by omega) (by omega) (fun z49 hz49 => ?_)
              clear hz48
              refine mz_ld148 (by decide +kernel) hc hI hz49 (by omega) (by omega) (fun v50 ev50 pv50 => ?_)
              clear pv50
              clear hz49
              exact pe_iret (by decide +kernel) rfl rfl ⟨v50, rfl, ⟨trivial, trivial⟩⟩
        · skip
          refine pe_iconstv (n := 1) (v := 1) (by decide +kernel) (by decide +kernel) ?_
          refine pe_goto (off := 4) (t := 15) (by decide +kernel) (by decide) rfl ?_
          refine pe_iret (by decide +kernel) rfl rfl ⟨rfl, rfl, ?_⟩
          show pmE pg X pg_tyl pg_cl (d + 2) 219 23 [.ref 147, .int x1, .int x2, .int z11] [.int 1] (md wc f A) _
          refine pz_if_eq (off := 12) (t := 35) (by decide +kernel) (by decide) rfl kz_1 (fun h51 => by omega) (fun h51 => ?_)
          refine pe_aload_n (j := 0) (by decide +kernel) rfl ?_
          refine pe_get (j := 7) (ci := 12) (n := 0) (by decide +kernel) (by decide +kernel) (md_o hc) rfl ?_
          refine pe_iload_n (j := 3) (by decide +kernel) rfl ?_
          refine pe_iload_n (j := 2) (by decide +kernel) rfl ?_
          refine pz_add (by decide +kernel) hz11 rfl (by omega) (by omega) (fun z52 hz52 => ?_)
          refine mz_ld148 (by decide +kernel) hc hI hz52 (by omega) (by omega) (fun v53 ev53 pv53 => ?_)
          clear pv53
          clear hz52
          exact pe_iret (by decide +kernel) rfl rfl ⟨v53, rfl, ⟨trivial, trivial⟩⟩
set_option maxRecDepth 100000 in
set_option maxHeartbeats 8000000 in
theorem MM_220 {X : pm_X} {d : Nat} {wc : pm_W} {f : Nat → Int32} {A : Nat → List Int32} {x1 x2 x3 : Int32} (hc : wc.length = 147) (hI : MI f A) : pmE pg X pg_tyl pg_cl (d + 2) 220 0 (pm_ent (pm_max pg 220) [.ref 147, .int x1, .int x2, .int x3]) [] (md wc f A) (fun q => ∃ (r : Int32), q = (some (.int r), md wc f A, 0, 0) ∧ ((True ∧ True))) := by
  show pmE pg X pg_tyl pg_cl (d + 2) 220 0 [.ref 147, .int x1, .int x2, .int x3] [] (md wc f A) _
  refine pe_aload_n (j := 0) (by decide +kernel) rfl ?_
  refine pe_iconstv (n := 0) (v := 0) (by decide +kernel) (by decide +kernel) ?_
  refine pe_iload_n (j := 1) (by decide +kernel) rfl ?_
  refine pi_V (j := 153) (mj := 200) (by decide +kernel) (cll_V (args := [.int x1, .int 0]) (n := 2) (by decide +kernel) rfl rfl (md_o hc) (by decide +kernel) (Nat.le_of_ble_eq_true rfl) (Nat.le_of_ble_eq_true rfl)) ?_
  show pmE pg X pg_tyl pg_cl (d + 1) 200 0 [.ref 147, .int 0, .int x1] [] (md wc f A) _
  refine pe_iload_n (j := 2) (by decide +kernel) rfl ?_
  refine pe_iconstv (n := 0) (v := 0) (by decide +kernel) (by decide +kernel) ?_
  refine pe_aload_n (j := 0) (by decide +kernel) rfl ?_
  refine pe_get (j := 7) (ci := 12) (n := 0) (by decide +kernel) (by decide +kernel) (md_o hc) rfl ?_
  refine pe_iload_n (j := 1) (by decide +kernel) rfl ?_
  refine mz_ld148 (by decide +kernel) hc hI kz_0 (by omega) (by omega) (fun v1 ev1 pv1 => ?_)
  have rv1 : 0 ≤ v1.toInt ∧ v1.toInt ≤ 2 := MT_c0 pv1 (by omega)
  clear pv1
  refine pe_iconstv (n := 1) (v := 1) (by decide +kernel) (by decide +kernel) ?_
  refine pz_sub (by decide +kernel) rfl kz_1 (by omega) (by omega) (fun z2 hz2 => ?_)
  refine pi_S (j := 119) (mj := 199) (by decide +kernel) (by decide +kernel) rfl ?_
  show pmE pg X pg_tyl pg_cl (d) 199 0 [.int x1, .int 0, .int z2] [] (md wc f A) _
  refine pe_iload_n (j := 0) (by decide +kernel) rfl ?_
  refine pe_iload_n (j := 1) (by decide +kernel) rfl ?_
  have lw4 := zi_lo x1
  have uw4 := zi_hi x1
  refine pz_icmp_lt (off := 12) (t := 14) (by decide +kernel) (by decide) rfl rfl kz_0 (fun h3 => ?_) (fun h3 => ?_)
  · skip
    refine pe_iconstv (n := 0) (v := 0) (by decide +kernel) (by decide +kernel) ?_
    refine pe_iret (by decide +kernel) rfl rfl ⟨rfl, rfl, ?_⟩
    show pmE pg X pg_tyl pg_cl (d + 1) 200 13 [.ref 147, .int 0, .int x1] [.int 0] (md wc f A) _
    refine pe_iret (by decide +kernel) rfl rfl ⟨rfl, rfl, ?_⟩
    show pmE pg X pg_tyl pg_cl (d + 2) 220 6 [.ref 147, .int x1, .int x2, .int x3] [.int 0] (md wc f A) _
    refine pz_if_eq (off := 29) (t := 35) (by decide +kernel) (by decide) rfl kz_0 (fun h5 => ?_) (fun h5 => by omega)
    refine pe_iconstv (n := (-1)) (v := (-1)) (by decide +kernel) (by decide +kernel) ?_
    exact pe_iret (by decide +kernel) rfl rfl ⟨(-1), rfl, ⟨trivial, trivial⟩⟩
  · skip
    refine pe_iload_n (j := 0) (by decide +kernel) rfl ?_
    refine pe_iload_n (j := 2) (by decide +kernel) rfl ?_
    refine pz_icmp_gt (off := 7) (t := 14) (by decide +kernel) (by decide) rfl rfl hz2 (fun h6 => ?_) (fun h6 => ?_)
    · skip
      refine pe_iconstv (n := 0) (v := 0) (by decide +kernel) (by decide +kernel) ?_
      refine pe_iret (by decide +kernel) rfl rfl ⟨rfl, rfl, ?_⟩
      show pmE pg X pg_tyl pg_cl (d + 1) 200 13 [.ref 147, .int 0, .int x1] [.int 0] (md wc f A) _
      refine pe_iret (by decide +kernel) rfl rfl ⟨rfl, rfl, ?_⟩
      show pmE pg X pg_tyl pg_cl (d + 2) 220 6 [.ref 147, .int x1, .int x2, .int x3] [.int 0] (md wc f A) _
      refine pz_if_eq (off := 29) (t := 35) (by decide +kernel) (by decide) rfl kz_0 (fun h7 => ?_) (fun h7 => by omega)
      refine pe_iconstv (n := (-1)) (v := (-1)) (by decide +kernel) (by decide +kernel) ?_
      exact pe_iret (by decide +kernel) rfl rfl ⟨(-1), rfl, ⟨trivial, trivial⟩⟩
    · skip
      refine pe_iconstv (n := 1) (v := 1) (by decide +kernel) (by decide +kernel) ?_
      refine pe_goto (off := 4) (t := 15) (by decide +kernel) (by decide) rfl ?_
      refine pe_iret (by decide +kernel) rfl rfl ⟨rfl, rfl, ?_⟩
      show pmE pg X pg_tyl pg_cl (d + 1) 200 13 [.ref 147, .int 0, .int x1] [.int 1] (md wc f A) _
      refine pe_iret (by decide +kernel) rfl rfl ⟨rfl, rfl, ?_⟩
      show pmE pg X pg_tyl pg_cl (d + 2) 220 6 [.ref 147, .int x1, .int x2, .int x3] [.int 1] (md wc f A) _
      refine pz_if_eq (off := 29) (t := 35) (by decide +kernel) (by decide) rfl kz_1 (fun h8 => by omega) (fun h8 => ?_)
      refine pe_aload_n (j := 0) (by decide +kernel) rfl ?_
      refine pe_iconstv (n := 0) (v := 0) (by decide +kernel) (by decide +kernel) ?_
      refine pe_iload_n (j := 1) (by decide +kernel) rfl ?_
      refine pi_S (j := 163) (mj := 217) (by decide +kernel) (by decide +kernel) rfl ?_
      show pmE pg X pg_tyl pg_cl (d + 1) 217 0 [.int 0, .int x1] [] (md wc f A) _
      refine pe_iload_n (j := 0) (by decide +kernel) rfl ?_
      refine pz_if_ne (off := 15) (t := 16) (by decide +kernel) (by decide) rfl kz_0 (fun h9 => by omega) (fun h9 => ?_)
      refine pe_sipushv (n := 610) (v := 610) (by decide +kernel) (by decide +kernel) ?_
      refine pe_sipushv (n := 132) (v := 132) (by decide +kernel) (by decide +kernel) ?_
      refine pe_iload_n (j := 1) (by decide +kernel) rfl ?_
      refine pz_mul (by decide +kernel) kz_132 rfl (by omega) (by omega) (fun z10 hz10 => ?_)
      refine pz_add (by decide +kernel) kz_610 hz10 (by omega) (by omega) (fun z11 hz11 => ?_)
      clear hz10
      refine pe_goto (off := 12) (t := 25) (by decide +kernel) (by decide) rfl ?_
      refine pe_iret (by decide +kernel) rfl rfl ⟨rfl, rfl, ?_⟩
      show pmE pg X pg_tyl pg_cl (d + 2) 220 15 [.ref 147, .int x1, .int x2, .int x3] [.int z11, .ref 147] (md wc f A) _
      refine pe_iload_n (j := 2) (by decide +kernel) rfl ?_
      refine pi_V (j := 166) (mj := 221) (by decide +kernel) (cll_V (args := [.int x2, .int z11]) (n := 2) (by decide +kernel) rfl rfl (md_o hc) (by decide +kernel) (Nat.le_of_ble_eq_true rfl) (Nat.le_of_ble_eq_true rfl)) ?_
      show pmE pg X pg_tyl pg_cl (d + 1) 221 0 [.ref 147, .int z11, .int x2] [] (md wc f A) _
      refine pe_iload_n (j := 2) (by decide +kernel) rfl ?_
      refine pe_iconstv (n := 0) (v := 0) (by decide +kernel) (by decide +kernel) ?_
      refine pe_aload_n (j := 0) (by decide +kernel) rfl ?_
      refine pe_get (j := 7) (ci := 12) (n := 0) (by decide +kernel) (by decide +kernel) (md_o hc) rfl ?_
      refine pe_iload_n (j := 1) (by decide +kernel) rfl ?_
      refine mz_ld148 (by decide +kernel) hc hI hz11 (by omega) (by omega) (fun v12 ev12 pv12 => ?_)
      have rv12 : 0 ≤ v12.toInt ∧ v12.toInt ≤ 9 := MT_people pv12 (by omega)
      clear pv12
      refine pe_iconstv (n := 1) (v := 1) (by decide +kernel) (by decide +kernel) ?_
      refine pz_sub (by decide +kernel) rfl kz_1 (by omega) (by omega) (fun z13 hz13 => ?_)
      refine pi_S (j := 119) (mj := 199) (by decide +kernel) (by decide +kernel) rfl ?_
      show pmE pg X pg_tyl pg_cl (d) 199 0 [.int x2, .int 0, .int z13] [] (md wc f A) _
      refine pe_iload_n (j := 0) (by decide +kernel) rfl ?_
      refine pe_iload_n (j := 1) (by decide +kernel) rfl ?_
      have lw15 := zi_lo x2
      have uw15 := zi_hi x2
      refine pz_icmp_lt (off := 12) (t := 14) (by decide +kernel) (by decide) rfl rfl kz_0 (fun h14 => ?_) (fun h14 => ?_)
      · skip
        refine pe_iconstv (n := 0) (v := 0) (by decide +kernel) (by decide +kernel) ?_
        refine pe_iret (by decide +kernel) rfl rfl ⟨rfl, rfl, ?_⟩
        show pmE pg X pg_tyl pg_cl (d + 1) 221 13 [.ref 147, .int z11, .int x2] [.int 0] (md wc f A) _
        refine pe_iret (by decide +kernel) rfl rfl ⟨rfl, rfl, ?_⟩
        show pmE pg X pg_tyl pg_cl (d + 2) 220 19 [.ref 147, .int x1, .int x2, .int x3] [.int 0] (md wc f A) _
        refine pz_if_eq (off := 16) (t := 35) (by decide +kernel) (by decide) rfl kz_0 (fun h16 => ?_) (fun h16 => by omega)
        refine pe_iconstv (n := (-1)) (v := (-1)) (by decide +kernel) (by decide +kernel) ?_
        exact pe_iret (by decide +kernel) rfl rfl ⟨(-1), rfl, ⟨trivial, trivial⟩⟩
      · skip
        refine pe_iload_n (j := 0) (by decide +kernel) rfl ?_
        refine pe_iload_n (j := 2) (by decide +kernel) rfl ?_
        refine pz_icmp_gt (off := 7) (t := 14) (by decide +kernel) (by decide) rfl rfl hz13 (fun h17 => ?_) (fun h17 => ?_)
        · skip
          refine pe_iconstv (n := 0) (v := 0) (by decide +kernel) (by decide +kernel) ?_
          refine pe_iret (by decide +kernel) rfl rfl ⟨rfl, rfl, ?_⟩
          show pmE pg X pg_tyl pg_cl (d + 1) 221 13 [.ref 147, .int z11, .int x2] [.int 0] (md wc f A) _
          refine pe_iret (by decide +kernel) rfl rfl ⟨rfl, rfl, ?_⟩
          show pmE pg X pg_tyl pg_cl (d + 2) 220 19 [.ref 147, .int x1, .int x2, .int x3] [.int 0] (md wc f A) _
          refine pz_if_eq (off := 16) (t := 35) (by decide +kernel) (by decide) rfl kz_0 (fun h18 => ?_) (fun h18 => by omega)
          refine pe_iconstv (n := (-1)) (v := (-1)) (by decide +kernel) (by decide +kernel) ?_
          exact pe_iret (by decide +kernel) rfl rfl ⟨(-1), rfl, ⟨trivial, trivial⟩⟩
        · skip
          refine pe_iconstv (n := 1) (v := 1) (by decide +kernel) (by decide +kernel) ?_
          refine pe_goto (off := 4) (t := 15) (by decide +kernel) (by decide) rfl ?_
          refine pe_iret (by decide +kernel) rfl rfl ⟨rfl, rfl, ?_⟩
          show pmE pg X pg_tyl pg_cl (d + 1) 221 13 [.ref 147, .int z11, .int x2] [.int 1] (md wc f A) _
          refine pe_iret (by decide +kernel) rfl rfl ⟨rfl, rfl, ?_⟩
          show pmE pg X pg_tyl pg_cl (d + 2) 220 19 [.ref 147, .int x1, .int x2, .int x3] [.int 1] (md wc f A) _
          refine pz_if_eq (off := 16) (t := 35) (by decide +kernel) (by decide) rfl kz_1 (fun h19 => by omega) (fun h19 => ?_)
          refine pe_aload_n (j := 0) (by decide +kernel) rfl ?_
          refine pe_iconstv (n := 0) (v := 0) (by decide +kernel) (by decide +kernel) ?_
          refine pe_iload_n (j := 1) (by decide +kernel) rfl ?_
          refine pi_S (j := 163) (mj := 217) (by decide +kernel) (by decide +kernel) rfl ?_
          show pmE pg X pg_tyl pg_cl (d + 1) 217 0 [.int 0, .int x1] [] (md wc f A) _
          refine pe_iload_n (j := 0) (by decide +kernel) rfl ?_
          refine pz_if_ne (off := 15) (t := 16) (by decide +kernel) (by decide) rfl kz_0 (fun h20 => by omega) (fun h20 => ?_)
          refine pe_sipushv (n := 610) (v := 610) (by decide +kernel) (by decide +kernel) ?_
          refine pe_sipushv (n := 132) (v := 132) (by decide +kernel) (by decide +kernel) ?_
          refine pe_iload_n (j := 1) (by decide +kernel) rfl ?_
          refine pz_mul (by decide +kernel) kz_132 rfl (by omega) (by omega) (fun z21 hz21 => ?_)
          refine pz_add (by decide +kernel) kz_610 hz21 (by omega) (by omega) (fun z22 hz22 => ?_)
          clear hz21
          refine pe_goto (off := 12) (t := 25) (by decide +kernel) (by decide) rfl ?_
          refine pe_iret (by decide +kernel) rfl rfl ⟨rfl, rfl, ?_⟩
          show pmE pg X pg_tyl pg_cl (d + 2) 220 28 [.ref 147, .int x1, .int x2, .int x3] [.int z22, .ref 147] (md wc f A) _
          refine pe_iload_n (j := 3) (by decide +kernel) rfl ?_
          refine pi_V (j := 166) (mj := 221) (by decide +kernel) (cll_V (args := [.int x3, .int z22]) (n := 2) (by decide +kernel) rfl rfl (md_o hc) (by decide +kernel) (Nat.le_of_ble_eq_true rfl) (Nat.le_of_ble_eq_true rfl)) ?_
          show pmE pg X pg_tyl pg_cl (d + 1) 221 0 [.ref 147, .int z22, .int x3] [] (md wc f A) _
          refine pe_iload_n (j := 2) (by decide +kernel) rfl ?_
          refine pe_iconstv (n := 0) (v := 0) (by decide +kernel) (by decide +kernel) ?_
          refine pe_aload_n (j := 0) (by decide +kernel) rfl ?_
          refine pe_get (j := 7) (ci := 12) (n := 0) (by decide +kernel) (by decide +kernel) (md_o hc) rfl ?_
          refine pe_iload_n (j := 1) (by decide +kernel) rfl ?_
          refine mz_ld148 (by decide +kernel) hc hI hz22 (by omega) (by omega) (fun v23 ev23 pv23 => ?_)
          rw [ev23.trans ev12.symm]
          clear pv23 ev23 v23
          refine pe_iconstv (n := 1) (v := 1) (by decide +kernel) (by decide +kernel) ?_
          refine pz_sub (by decide +kernel) rfl kz_1 (by omega) (by omega) (fun z24 hz24 => ?_)
          refine pi_S (j := 119) (mj := 199) (by decide +kernel) (by decide +kernel) rfl ?_
          show pmE pg X pg_tyl pg_cl (d) 199 0 [.int x3, .int 0, .int z24] [] (md wc f A) _
          refine pe_iload_n (j := 0) (by decide +kernel) rfl ?_
          refine pe_iload_n (j := 1) (by decide +kernel) rfl ?_
          have lw26 := zi_lo x3
          have uw26 := zi_hi x3
          refine pz_icmp_lt (off := 12) (t := 14) (by decide +kernel) (by decide) rfl rfl kz_0 (fun h25 => ?_) (fun h25 => ?_)
          · skip
            refine pe_iconstv (n := 0) (v := 0) (by decide +kernel) (by decide +kernel) ?_
            refine pe_iret (by decide +kernel) rfl rfl ⟨rfl, rfl, ?_⟩
            show pmE pg X pg_tyl pg_cl (d + 1) 221 13 [.ref 147, .int z22, .int x3] [.int 0] (md wc f A) _
            refine pe_iret (by decide +kernel) rfl rfl ⟨rfl, rfl, ?_⟩
            show pmE pg X pg_tyl pg_cl (d + 2) 220 32 [.ref 147, .int x1, .int x2, .int x3] [.int 0] (md wc f A) _
            refine pz_if_ne (off := 5) (t := 37) (by decide +kernel) (by decide) rfl kz_0 (fun h27 => by omega) (fun h27 => ?_)
            refine pe_iconstv (n := (-1)) (v := (-1)) (by decide +kernel) (by decide +kernel) ?_
            exact pe_iret (by decide +kernel) rfl rfl ⟨(-1), rfl, ⟨trivial, trivial⟩⟩
          · skip
            refine pe_iload_n (j := 0) (by decide +kernel) rfl ?_
            refine pe_iload_n (j := 2) (by decide +kernel) rfl ?_
            refine pz_icmp_gt (off := 7) (t := 14) (by decide +kernel) (by decide) rfl rfl hz24 (fun h28 => ?_) (fun h28 => ?_)
            · skip
              refine pe_iconstv (n := 0) (v := 0) (by decide +kernel) (by decide +kernel) ?_
              refine pe_iret (by decide +kernel) rfl rfl ⟨rfl, rfl, ?_⟩
              show pmE pg X pg_tyl pg_cl (d + 1) 221 13 [.ref 147, .int z22, .int x3] [.int 0] (md wc f A) _
              refine pe_iret (by decide +kernel) rfl rfl ⟨rfl, rfl, ?_⟩
              show pmE pg X pg_tyl pg_cl (d + 2) 220 32 [.ref 147, .int x1, .int x2, .int x3] [.int 0] (md wc f A) _
              refine pz_if_ne (off := 5) (t := 37) (by decide +kernel) (by decide) rfl kz_0 (fun h29 => by omega) (fun h29 => ?_)
              refine pe_iconstv (n := (-1)) (v := (-1)) (by decide +kernel) (by decide +kernel) ?_
              exact pe_iret (by decide +kernel) rfl rfl ⟨(-1), rfl, ⟨trivial, trivial⟩⟩
            · skip
              refine pe_iconstv (n := 1) (v := 1) (by decide +kernel) (by decide +kernel) ?_
              refine pe_goto (off := 4) (t := 15) (by decide +kernel) (by decide) rfl ?_
              refine pe_iret (by decide +kernel) rfl rfl ⟨rfl, rfl, ?_⟩
              show pmE pg X pg_tyl pg_cl (d + 1) 221 13 [.ref 147, .int z22, .int x3] [.int 1] (md wc f A) _
              refine pe_iret (by decide +kernel) rfl rfl ⟨rfl, rfl, ?_⟩
              show pmE pg X pg_tyl pg_cl (d + 2) 220 32 [.ref 147, .int x1, .int x2, .int x3] [.int 1] (md wc f A) _
              refine pz_if_ne (off := 5) (t := 37) (by decide +kernel) (by decide) rfl kz_1 (fun h30 => ?_) (fun h30 => by omega)
              refine pe_aload_n (j := 0) (by decide +kernel) rfl ?_
              refine pe_get (j := 7) (ci := 12) (n := 0) (by decide +kernel) (by decide +kernel) (md_o hc) rfl ?_
              refine pe_iconstv (n := 0) (v := 0) (by decide +kernel) (by decide +kernel) ?_
              refine pe_iload_n (j := 1) (by decide +kernel) rfl ?_
              refine pi_S (j := 163) (mj := 217) (by decide +kernel) (by decide +kernel) rfl ?_
              show pmE pg X pg_tyl pg_cl (d + 1) 217 0 [.int 0, .int x1] [] (md wc f A) _
              refine pe_iload_n (j := 0) (by decide +kernel) rfl ?_
              refine pz_if_ne (off := 15) (t := 16) (by decide +kernel) (by decide) rfl kz_0 (fun h31 => by omega) (fun h31 => ?_)
              refine pe_sipushv (n := 610) (v := 610) (by decide +kernel) (by decide +kernel) ?_
              refine pe_sipushv (n := 132) (v := 132) (by decide +kernel) (by decide +kernel) ?_
              refine pe_iload_n (j := 1) (by decide +kernel) rfl ?_
              refine pz_mul (by decide +kernel) kz_132 rfl (by omega) (by omega) (fun z32 hz32 => ?_)
              refine pz_add (by decide +kernel) kz_610 hz32 (by omega) (by omega) (fun z33 hz33 => ?_)
              clear hz32
              refine pe_goto (off := 12) (t := 25) (by decide +kernel) (by decide) rfl ?_
              refine pe_iret (by decide +kernel) rfl rfl ⟨rfl, rfl, ?_⟩
              show pmE pg X pg_tyl pg_cl (d + 2) 220 46 [.ref 147, .int x1, .int x2, .int x3] [.int z33, .ref 148] (md wc f A) _
              refine pe_iconstv (n := 3) (v := 3) (by decide +kernel) (by decide +kernel) ?_
              refine pz_add (by decide +kernel) hz33 kz_3 (by omega) (by omega) (fun z34 hz34 => ?_)
              clear hz33
              refine pe_bipushv (n := 9) (v := 9) (by decide +kernel) (by decide +kernel) ?_
              refine pe_iload_n (j := 2) (by decide +kernel) rfl ?_
              refine pz_mul (by decide +kernel) kz_9 rfl (by omega) (by omega) (fun z35 hz35 => ?_)
              refine pz_add (by decide +kernel) hz34 hz35 (by omega) (by omega) (fun z36 hz36 => ?_)
              clear hz34 hz35
              refine pe_iload_n (j := 3) (by decide +kernel) rfl ?_
              refine pz_add (by decide +kernel) hz36 rfl (by omega) (by omega) (fun z37 hz37 => ?_)
              clear hz36
              refine mz_ld148 (by decide +kernel) hc hI hz37 (by omega) (by omega) (fun v38 ev38 pv38 => ?_)
              clear pv38
              clear hz37
              exact pe_iret (by decide +kernel) rfl rfl ⟨v38, rfl, ⟨trivial, trivial⟩⟩
end
