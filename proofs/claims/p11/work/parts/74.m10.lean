set_option maxRecDepth 100000 in
set_option maxHeartbeats 8000000 in
theorem ML_228_12 {X : pm_X} {d : Nat} {wc : pm_W} {Q : pm_R → Prop} {f0 : Nat → Int32} {A0 : Nat → List Int32} {x1 x2 x3 : Int32} (hc : wc.length = 147) (gx1 : (610 ≤ x1.toInt ∧ x1.toInt ≤ 742 ∧ (x1.toInt - 610) % 132 = 0)) (gx2 : (0 ≤ x2.toInt ∧ x2.toInt ≤ 2)) (k_81_0 : ∀ (f' : Nat → Int32) (A' : Nat → List Int32) (y4 : Int32), MI f' A' → (∀ k : Nat, k ≠ 14 → k ≠ 15 → k ≠ 16 → f' k = f0 k) → (∀ k : Nat, k ≠ 152 → k ≠ 153 → A' k = A0 k) → (0 ≤ y4.toInt ∧ y4.toInt ≤ 30) → pmE pg X pg_tyl pg_cl (d + 5) 228 81 [.ref 147, .int x1, .int x2, .int x3, .int y4] [] (md wc f' A') Q) : ∀ (m : Nat) (f : Nat → Int32) (A : Nat → List Int32) (x4 : Int32), MI f A → (∀ k : Nat, k ≠ 14 → k ≠ 15 → k ≠ 16 → f k = f0 k) → (∀ k : Nat, k ≠ 152 → k ≠ 153 → A k = A0 k) → (0 ≤ x4.toInt ∧ x4.toInt ≤ 30) → ((f 14).toInt + (-1) * x4.toInt) ≤ 0 → 30 - x4.toInt < (m : Int) → pmE pg X pg_tyl pg_cl (d + 5) 228 12 [.ref 147, .int x1, .int x2, .int x3, .int x4] [] (md wc f A) Q := by
  intro m
  induction m with
  | zero =>
    intro f A x4 hI hG hF gx4 hxi0 hm
    exfalso
    have l0 := zi_lo x4
    have u0 := zi_hi x4
    omega
  | succ m ih =>
    intro f A x4 hI hG hF gx4 hxi0 hm
    have hr_14_f := hI.1 14
    simp only [MF] at hr_14_f
    refine pe_iload (j := 4) (by decide +kernel) rfl ?_
    refine pe_iload_n (j := 3) (by decide +kernel) rfl ?_
    have lw2 := zi_lo x3
    have uw2 := zi_hi x3
    refine pz_icmp_ge (off := 66) (t := 81) (by decide +kernel) (by decide) rfl rfl rfl (fun h1 => ?_) (fun h1 => ?_)
    · skip
      exact k_81_0 f A x4 hI (fun k n14 n15 n16 => (hG k n14 n15 n16)) (fun k n152 n153 => (hF k n152 n153)) (by omega)
    · skip
      refine pe_iload (j := 4) (by decide +kernel) rfl ?_
      refine pe_aload_n (j := 0) (by decide +kernel) rfl ?_
      refine pe_get (j := 7) (ci := 12) (n := 0) (by decide +kernel) (by decide +kernel) (md_o hc) rfl ?_
      refine pe_iconstv (n := 1) (v := 1) (by decide +kernel) (by decide +kernel) ?_
      refine pe_iload_n (j := 2) (by decide +kernel) rfl ?_
      refine pi_S (j := 163) (mj := 217) (by decide +kernel) (by decide +kernel) rfl ?_
      show pmE pg X pg_tyl pg_cl (d + 4) 217 0 [.int 1, .int x2] [] (md wc f A) _
      refine pe_iload_n (j := 0) (by decide +kernel) rfl ?_
      refine pz_if_ne (off := 15) (t := 16) (by decide +kernel) (by decide) rfl kz_1 (fun h3 => ?_) (fun h3 => by omega)
      refine pe_sipushv (n := 874) (v := 874) (by decide +kernel) (by decide +kernel) ?_
      refine pe_sipushv (n := 272) (v := 272) (by decide +kernel) (by decide +kernel) ?_
      refine pe_iload_n (j := 1) (by decide +kernel) rfl ?_
      refine pz_mul (by decide +kernel) kz_272 rfl (by omega) (by omega) (fun z4 hz4 => ?_)
      refine pz_add (by decide +kernel) kz_874 hz4 (by omega) (by omega) (fun z5 hz5 => ?_)
      clear hz4
      refine pe_iret (by decide +kernel) rfl rfl ⟨rfl, rfl, ?_⟩
      show pmE pg X pg_tyl pg_cl (d + 5) 228 29 [.ref 147, .int x1, .int x2, .int x3, .int x4] [.int z5, .ref 148, .int x4] (md wc f A) _
      refine mz_ld148 (by decide +kernel) hc hI hz5 (by omega) (by omega) (fun v6 ev6 pv6 => ?_)
      rw [show A 148 = A0 148 from (hF 148 (by decide) (by decide))] at ev6
      have rv6 : 0 ≤ v6.toInt ∧ v6.toInt ≤ 30 := MT_acts pv6 (by omega)
      clear pv6
      clear hz5
      refine pz_icmp_ge (off := 51) (t := 81) (by decide +kernel) (by decide) rfl rfl rfl (fun h7 => ?_) (fun h7 => ?_)
      · skip
        exact k_81_0 f A x4 hI (fun k n14 n15 n16 => (hG k n14 n15 n16)) (fun k n152 n153 => (hF k n152 n153)) (by omega)
      · skip
        refine pe_aload_n (j := 0) (by decide +kernel) rfl ?_
        refine pe_iload_n (j := 1) (by decide +kernel) rfl ?_
        refine pe_iconstv (n := 1) (v := 1) (by decide +kernel) (by decide +kernel) ?_
        refine pe_iload_n (j := 2) (by decide +kernel) rfl ?_
        refine pi_S (j := 163) (mj := 217) (by decide +kernel) (by decide +kernel) rfl ?_
        show pmE pg X pg_tyl pg_cl (d + 4) 217 0 [.int 1, .int x2] [] (md wc f A) _
        refine pe_iload_n (j := 0) (by decide +kernel) rfl ?_
        refine pz_if_ne (off := 15) (t := 16) (by decide +kernel) (by decide) rfl kz_1 (fun h8 => ?_) (fun h8 => by omega)
        refine pe_sipushv (n := 874) (v := 874) (by decide +kernel) (by decide +kernel) ?_
        refine pe_sipushv (n := 272) (v := 272) (by decide +kernel) (by decide +kernel) ?_
        refine pe_iload_n (j := 1) (by decide +kernel) rfl ?_
        refine pz_mul (by decide +kernel) kz_272 rfl (by omega) (by omega) (fun z9 hz9 => ?_)
        refine pz_add (by decide +kernel) kz_874 hz9 (by omega) (by omega) (fun z10 hz10 => ?_)
        clear hz9
        refine pe_iret (by decide +kernel) rfl rfl ⟨rfl, rfl, ?_⟩
        show pmE pg X pg_tyl pg_cl (d + 5) 228 40 [.ref 147, .int x1, .int x2, .int x3, .int x4] [.int z10, .int x1, .ref 147] (md wc f A) _
        refine pe_iconstv (n := 1) (v := 1) (by decide +kernel) (by decide +kernel) ?_
        refine pz_add (by decide +kernel) hz10 kz_1 (by omega) (by omega) (fun z11 hz11 => ?_)
        clear hz10
        refine pe_bipushv (n := 9) (v := 9) (by decide +kernel) (by decide +kernel) ?_
        refine pe_iload (j := 4) (by decide +kernel) rfl ?_
        refine pz_mul (by decide +kernel) kz_9 rfl (by omega) (by omega) (fun z12 hz12 => ?_)
        refine pz_add (by decide +kernel) hz11 hz12 (by omega) (by omega) (fun z13 hz13 => ?_)
        clear hz11 hz12
        refine pz_callV (j := 220) (mj := 230) (by decide +kernel) (cll_V (args := [.int z13, .int x1]) (n := 2) (by decide +kernel) rfl rfl (md_o hc) (by decide +kernel) (Nat.le_of_ble_eq_true rfl) (Nat.le_of_ble_eq_true rfl)) (MM_230 hc hI (by omega) (by omega) (by omega) ⟨x2.toInt, x4.toInt, by omega⟩) (fun q14a q14b q14c q14d hqq14 => ?_)
        obtain ⟨f15, A16, rq14, eq14, hIq14, hGq14, hFq14, hX0q14, kq14⟩ := hqq14
        cases eq14
        refine ⟨rfl, rfl, ?_⟩
        have hr_14_f15 := hIq14.1 14
        simp only [MF] at hr_14_f15
        rcases kq14 with kq14 | kq14
        · skip
          obtain ⟨erq14, kq14⟩ := kq14
          subst erq14
          show pmE pg X pg_tyl pg_cl (d + 5) 228 51 [.ref 147, .int x1, .int x2, .int x3, .int x4] [.int 0] (md wc f15 A16) _
          refine pz_if_eq (off := 30) (t := 81) (by decide +kernel) (by decide) rfl kz_0 (fun h17 => ?_) (fun h17 => by omega)
          exact k_81_0 f15 A16 x4 hIq14 (fun k n14 n15 n16 => ((hGq14 k n14 n15)).trans ((hG k n14 n15 n16))) (fun k n152 n153 => ((hFq14 k n152 n153)).trans ((hF k n152 n153))) (by omega)
        · skip
          obtain ⟨erq14, kq14⟩ := kq14
          subst erq14
          show pmE pg X pg_tyl pg_cl (d + 5) 228 51 [.ref 147, .int x1, .int x2, .int x3, .int x4] [.int 1] (md wc f15 A16) _
          refine pz_if_eq (off := 30) (t := 81) (by decide +kernel) (by decide) rfl kz_1 (fun h18 => by omega) (fun h18 => ?_)
          refine pe_aload_n (j := 0) (by decide +kernel) rfl ?_
          refine pe_get (j := 217) (ci := 12) (n := 16) (by decide +kernel) (by decide +kernel) (md_o hc) rfl ?_
          refine pe_top (v := (f 16)) ((hGq14 16 (by decide) (by decide))) ?_
          have lw20 := zi_lo (f 16)
          have uw20 := zi_hi (f 16)
          refine pz_if_ge (off := 17) (t := 75) (by decide +kernel) (by decide) rfl rfl (fun h19 => ?_) (fun h19 => ?_)
          · skip
            refine pz_iinc (j := 4) (n := 1) (by decide +kernel) rfl rfl (by decide +kernel) (by omega) (by omega) (fun z21 hz21 => ?_)
            show pmE pg X pg_tyl pg_cl (d + 5) 228 78 [.ref 147, .int x1, .int x2, .int x3, .int z21] [] (md wc f15 A16) _
            refine pe_goto (off := (-66)) (t := 12) (by decide +kernel) (by decide) rfl ?_
            exact ih f15 A16 z21 hIq14 (fun k n14 n15 n16 => ((hGq14 k n14 n15)).trans ((hG k n14 n15 n16))) (fun k n152 n153 => ((hFq14 k n152 n153)).trans ((hF k n152 n153))) (by omega) (by omega) (by omega)
          · skip
            refine pe_aload_n (j := 0) (by decide +kernel) rfl ?_
            refine pe_iload_n (j := 1) (by decide +kernel) rfl ?_
            refine pz_callV (j := 223) (mj := 241) (by decide +kernel) (cll_V (args := [.int x1]) (n := 1) (by decide +kernel) rfl rfl (md_o hc) (by decide +kernel) (Nat.le_of_ble_eq_true rfl) (Nat.le_of_ble_eq_true rfl)) (MM_241 hc hIq14 (by omega)) (fun q22a q22b q22c q22d hqq22 => ?_)
            obtain ⟨rq22, eq22, kq22⟩ := hqq22
            cases eq22
            refine ⟨rfl, rfl, ?_⟩
            show pmE pg X pg_tyl pg_cl (d + 5) 228 66 [.ref 147, .int x1, .int x2, .int x3, .int x4] [.int rq22] (md wc f15 A16) _
            refine pz_if_ne (off := 9) (t := 75) (by decide +kernel) (by decide) rfl rfl (fun h23 => ?_) (fun h23 => ?_)
            · skip
              refine pz_iinc (j := 4) (n := 1) (by decide +kernel) rfl rfl (by decide +kernel) (by omega) (by omega) (fun z24 hz24 => ?_)
              show pmE pg X pg_tyl pg_cl (d + 5) 228 78 [.ref 147, .int x1, .int x2, .int x3, .int z24] [] (md wc f15 A16) _
              refine pe_goto (off := (-66)) (t := 12) (by decide +kernel) (by decide) rfl ?_
              exact ih f15 A16 z24 hIq14 (fun k n14 n15 n16 => ((hGq14 k n14 n15)).trans ((hG k n14 n15 n16))) (fun k n152 n153 => ((hFq14 k n152 n153)).trans ((hF k n152 n153))) (by omega) (by omega) (by omega)
            · skip
              refine pe_aload_n (j := 0) (by decide +kernel) rfl ?_
              refine pe_iload (j := 4) (by decide +kernel) rfl ?_
              refine mz_put16 (jj := 217) (by decide +kernel) (by decide +kernel) hc hIq14 (fun f25 ef25 hIf25 => ?_)
              refine pz_iinc (j := 4) (n := 1) (by decide +kernel) rfl rfl (by decide +kernel) (by omega) (by omega) (fun z26 hz26 => ?_)
              show pmE pg X pg_tyl pg_cl (d + 5) 228 78 [.ref 147, .int x1, .int x2, .int x3, .int z26] [] (md wc f25 A16) _
              refine pe_goto (off := (-66)) (t := 12) (by decide +kernel) (by decide) rfl ?_
              have hx27 : (f25 14).toInt = (f15 14).toInt := (congrArg Int32.toInt (show f25 14 = (f15 14) from upf_fr ef25 (by decide))).trans rfl
              exact ih f25 A16 z26 hIf25 (fun k n14 n15 n16 => (upf_fr ef25 n16).trans (((hGq14 k n14 n15)).trans ((hG k n14 n15 n16)))) (fun k n152 n153 => ((hFq14 k n152 n153)).trans ((hF k n152 n153))) (by omega) (by omega) (by omega)
set_option maxRecDepth 100000 in
set_option maxHeartbeats 8000000 in
theorem MM_228 {X : pm_X} {d : Nat} {wc : pm_W} {f : Nat → Int32} {A : Nat → List Int32} {x1 x2 x3 : Int32} (hc : wc.length = 147) (hI : MI f A) (gx1 : (610 ≤ x1.toInt ∧ x1.toInt ≤ 742 ∧ (x1.toInt - 610) % 132 = 0)) (gx2 : (0 ≤ x2.toInt ∧ x2.toInt ≤ 2)) : pmE pg X pg_tyl pg_cl (d + 5) 228 0 (pm_ent (pm_max pg 228) [.ref 147, .int x1, .int x2, .int x3]) [] (md wc f A) (fun q => ∃ (f' : Nat → Int32) (A' : Nat → List Int32) (r : Int32), q = (some (.int r), md wc f' A', 0, 0) ∧ MI f' A' ∧ (∀ k : Nat, k ≠ 14 → k ≠ 15 → k ≠ 16 → f' k = f k) ∧ (∀ k : Nat, k ≠ 152 → k ≠ 153 → A' k = A k) ∧ (((0 ≤ r.toInt ∧ r.toInt ≤ 30) ∧ True))) := by
  show pmE pg X pg_tyl pg_cl (d + 5) 228 0 [.ref 147, .int x1, .int x2, .int x3, pm_dead] [] (md wc f A) _
  refine pe_aload_n (j := 0) (by decide +kernel) rfl ?_
  refine pz_callV (j := 214) (mj := 229) (by decide +kernel) (cll_V (args := []) (n := 0) (by decide +kernel) rfl rfl (md_o hc) (by decide +kernel) (Nat.le_of_ble_eq_true rfl) (Nat.le_of_ble_eq_true rfl)) (MM_229 hc hI) (fun q1a q1b q1c q1d hqq1 => ?_)
  obtain ⟨f2, A3, eq1, hIq1, hGq1, hFq1, hX0q1, kq1⟩ := hqq1
  cases eq1
  refine ⟨rfl, rfl, ?_⟩
  have hr_14_f2 := hIq1.1 14
  simp only [MF] at hr_14_f2
  show pmE pg X pg_tyl pg_cl (d + 5) 228 4 [.ref 147, .int x1, .int x2, .int x3, pm_dead] [] (md wc f2 A3) _
  refine pe_aload_n (j := 0) (by decide +kernel) rfl ?_
  refine pe_iconstv (n := (-1)) (v := (-1)) (by decide +kernel) (by decide +kernel) ?_
  refine mz_put16 (jj := 217) (by decide +kernel) (by decide +kernel) hc hIq1 (fun f4 ef4 hIf4 => ?_)
  refine pe_iconstv (n := 0) (v := 0) (by decide +kernel) (by decide +kernel) ?_
  refine pe_istore (j := 4) (ls' := [.ref 147, .int x1, .int x2, .int x3, .int 0]) (by decide +kernel) (Nat.le_of_ble_eq_true rfl) rfl ?_
  have hx9 : (f4 14).toInt = (f2 14).toInt := (congrArg Int32.toInt (show f4 14 = (f2 14) from upf_fr ef4 (by decide))).trans rfl
  have hl10 := kz_0
  refine ML_228_12 hc (by omega) (by omega) (fun f5 A6 y8 hIy7 hGhIy7 hFhIy7 gy8 => ?_) 31 f4 A3 0 hIf4 (fun k _ _ _ => rfl) (fun k _ _ => rfl) (by decide +kernel) (by omega) (by decide +kernel)
  refine pe_iload (j := 4) (by decide +kernel) rfl ?_
  exact pe_iret (by decide +kernel) rfl rfl ⟨f5, A6, y8, rfl, hIy7, (fun k n14 n15 n16 => ((hGhIy7 k n14 n15 n16)).trans ((upf_fr ef4 n16).trans ((hGq1 k n14 n15)))), (fun k n152 n153 => ((hFhIy7 k n152 n153)).trans ((hFq1 k n152))), ⟨(by omega), trivial⟩⟩
set_option maxRecDepth 100000 in
set_option maxHeartbeats 8000000 in
theorem MM_246 {X : pm_X} {d : Nat} {wc : pm_W} {f : Nat → Int32} {A : Nat → List Int32} {x1 x2 x3 : Int32} (hc : wc.length = 147) (hI : MI f A) : pmE pg X pg_tyl pg_cl (d + 6) 246 0 (pm_ent (pm_max pg 246) [.ref 147, .int x1, .int x2, .int x3]) [] (md wc f A) (fun q => ∃ (f' : Nat → Int32) (A' : Nat → List Int32) (r : Int32), q = (some (.int r), md wc f' A', 0, 0) ∧ MI f' A' ∧ (∀ k : Nat, k ≠ 14 → k ≠ 15 → k ≠ 16 → f' k = f k) ∧ (∀ k : Nat, k ≠ 152 → k ≠ 153 → A' k = A k) ∧ ((r = 0 ∧ True) ∨ (r = 1 ∧ (0 ≤ x1.toInt ∧ x1.toInt ≤ 1) ∧ ((-1) ≤ x2.toInt ∧ x2.toInt ≤ 2) ∧ (0 ≤ x3.toInt ∧ x3.toInt ≤ 30)))) := by
  show pmE pg X pg_tyl pg_cl (d + 6) 246 0 [.ref 147, .int x1, .int x2, .int x3] [] (md wc f A) _
  refine pe_aload_n (j := 0) (by decide +kernel) rfl ?_
  refine pe_iconstv (n := 0) (v := 0) (by decide +kernel) (by decide +kernel) ?_
  refine pe_iload_n (j := 1) (by decide +kernel) rfl ?_
  refine pi_V (j := 153) (mj := 200) (by decide +kernel) (cll_V (args := [.int x1, .int 0]) (n := 2) (by decide +kernel) rfl rfl (md_o hc) (by decide +kernel) (Nat.le_of_ble_eq_true rfl) (Nat.le_of_ble_eq_true rfl)) ?_
  show pmE pg X pg_tyl pg_cl (d + 5) 200 0 [.ref 147, .int 0, .int x1] [] (md wc f A) _
  refine pe_iload_n (j := 2) (by decide +kernel) rfl ?_
  refine pe_iconstv (n := 0) (v := 0) (by decide +kernel) (by decide +kernel) ?_
  refine pe_aload_n (j := 0) (by decide +kernel) rfl ?_
  refine pe_get (j := 7) (ci := 12) (n := 0) (by decide +kernel) (by decide +kernel) (md_o hc) rfl ?_
  refine pe_iload_n (j := 1) (by decide +kernel) rfl ?_
  refine mz_ld148 (by decide +kernel) hc hI kz_0 (by omega) (by omega) (fun v1 ev1 pv1 => ?_)
  have rv1 : 0 ≤ v1.toInt ∧ v1.toInt ≤ 2 := MT_c0 pv1 (by omega)
  clear pv1
  refine pe_iconstv (n := 1) (v := 1) (by decide +kernel) (by decide +kernel) ?_
  refine pz_sub (by decide +kernel) rfl kz_1 (by omega) (by omega) (fun z2 hz2 => ?_)
  refine pi_S (j := 119) (mj := 199) (by decide +kernel) (by decide +kernel) rfl ?_
  show pmE pg X pg_tyl pg_cl (d + 4) 199 0 [.int x1, .int 0, .int z2] [] (md wc f A) _
  refine pe_iload_n (j := 0) (by decide +kernel) rfl ?_
  refine pe_iload_n (j := 1) (by decide +kernel) rfl ?_
  have lw4 := zi_lo x1
  have uw4 := zi_hi x1
  refine pz_icmp_lt (off := 12) (t := 14) (by decide +kernel) (by decide) rfl rfl kz_0 (fun h3 => ?_) (fun h3 => ?_)
  · skip
    refine pe_iconstv (n := 0) (v := 0) (by decide +kernel) (by decide +kernel) ?_
    refine pe_iret (by decide +kernel) rfl rfl ⟨rfl, rfl, ?_⟩
    show pmE pg X pg_tyl pg_cl (d + 5) 200 13 [.ref 147, .int 0, .int x1] [.int 0] (md wc f A) _
    refine pe_iret (by decide +kernel) rfl rfl ⟨rfl, rfl, ?_⟩
    show pmE pg X pg_tyl pg_cl (d + 6) 246 6 [.ref 147, .int x1, .int x2, .int x3] [.int 0] (md wc f A) _
    refine pz_if_eq (off := 21) (t := 27) (by decide +kernel) (by decide) rfl kz_0 (fun h5 => ?_) (fun h5 => by omega)
    refine pe_iconstv (n := 0) (v := 0) (by decide +kernel) (by decide +kernel) ?_
    exact pe_iret (by decide +kernel) rfl rfl ⟨f, A, 0, rfl, hI, (fun k n14 n15 n16 => rfl), (fun k n152 n153 => rfl), Or.inl ⟨rfl, trivial⟩⟩
  · skip
    refine pe_iload_n (j := 0) (by decide +kernel) rfl ?_
    refine pe_iload_n (j := 2) (by decide +kernel) rfl ?_
    refine pz_icmp_gt (off := 7) (t := 14) (by decide +kernel) (by decide) rfl rfl hz2 (fun h6 => ?_) (fun h6 => ?_)
    · skip
      refine pe_iconstv (n := 0) (v := 0) (by decide +kernel) (by decide +kernel) ?_
      refine pe_iret (by decide +kernel) rfl rfl ⟨rfl, rfl, ?_⟩
      show pmE pg X pg_tyl pg_cl (d + 5) 200 13 [.ref 147, .int 0, .int x1] [.int 0] (md wc f A) _
      refine pe_iret (by decide +kernel) rfl rfl ⟨rfl, rfl, ?_⟩
      show pmE pg X pg_tyl pg_cl (d + 6) 246 6 [.ref 147, .int x1, .int x2, .int x3] [.int 0] (md wc f A) _
      refine pz_if_eq (off := 21) (t := 27) (by decide +kernel) (by decide) rfl kz_0 (fun h7 => ?_) (fun h7 => by omega)
      refine pe_iconstv (n := 0) (v := 0) (by decide +kernel) (by decide +kernel) ?_
      exact pe_iret (by decide +kernel) rfl rfl ⟨f, A, 0, rfl, hI, (fun k n14 n15 n16 => rfl), (fun k n152 n153 => rfl), Or.inl ⟨rfl, trivial⟩⟩
    · skip
      refine pe_iconstv (n := 1) (v := 1) (by decide +kernel) (by decide +kernel) ?_
      refine pe_goto (off := 4) (t := 15) (by decide +kernel) (by decide) rfl ?_
      refine pe_iret (by decide +kernel) rfl rfl ⟨rfl, rfl, ?_⟩
      show pmE pg X pg_tyl pg_cl (d + 5) 200 13 [.ref 147, .int 0, .int x1] [.int 1] (md wc f A) _
      refine pe_iret (by decide +kernel) rfl rfl ⟨rfl, rfl, ?_⟩
      show pmE pg X pg_tyl pg_cl (d + 6) 246 6 [.ref 147, .int x1, .int x2, .int x3] [.int 1] (md wc f A) _
      refine pz_if_eq (off := 21) (t := 27) (by decide +kernel) (by decide) rfl kz_1 (fun h8 => by omega) (fun h8 => ?_)
      refine pe_iload_n (j := 3) (by decide +kernel) rfl ?_
      have lw10 := zi_lo x3
      have uw10 := zi_hi x3
      refine pz_if_lt (off := 17) (t := 27) (by decide +kernel) (by decide) rfl rfl (fun h9 => ?_) (fun h9 => ?_)
      · skip
        refine pe_iconstv (n := 0) (v := 0) (by decide +kernel) (by decide +kernel) ?_
        exact pe_iret (by decide +kernel) rfl rfl ⟨f, A, 0, rfl, hI, (fun k n14 n15 n16 => rfl), (fun k n152 n153 => rfl), Or.inl ⟨rfl, trivial⟩⟩
      · skip
        refine pe_iload_n (j := 2) (by decide +kernel) rfl ?_
        refine pe_iconstv (n := (-1)) (v := (-1)) (by decide +kernel) (by decide +kernel) ?_
        have lw12 := zi_lo x2
        have uw12 := zi_hi x2
        refine pz_icmp_eq (off := 14) (t := 29) (by decide +kernel) (by decide) rfl rfl kz_m1 (fun h11 => ?_) (fun h11 => ?_)
        · skip
          refine pe_aload_n (j := 0) (by decide +kernel) rfl ?_
          refine pz_callV (j := 214) (mj := 229) (by decide +kernel) (cll_V (args := []) (n := 0) (by decide +kernel) rfl rfl (md_o hc) (by decide +kernel) (Nat.le_of_ble_eq_true rfl) (Nat.le_of_ble_eq_true rfl)) (MM_229 hc hI) (fun q13a q13b q13c q13d hqq13 => ?_)
          obtain ⟨f14, A15, eq13, hIq13, hGq13, hFq13, hX0q13, kq13⟩ := hqq13
          cases eq13
          refine ⟨rfl, rfl, ?_⟩
          have hr_14_f14 := hIq13.1 14
          simp only [MF] at hr_14_f14
          show pmE pg X pg_tyl pg_cl (d + 6) 246 33 [.ref 147, .int x1, .int x2, .int x3] [] (md wc f14 A15) _
          refine pe_iload_n (j := 2) (by decide +kernel) rfl ?_
          refine pe_iconstv (n := (-1)) (v := (-1)) (by decide +kernel) (by decide +kernel) ?_
          refine pz_icmp_ne (off := 15) (t := 50) (by decide +kernel) (by decide) rfl rfl kz_m1 (fun h16 => by omega) (fun h16 => ?_)
          refine pe_iload_n (j := 3) (by decide +kernel) rfl ?_
          refine pz_if_ne (off := 7) (t := 46) (by decide +kernel) (by decide) rfl rfl (fun h17 => ?_) (fun h17 => ?_)
          · skip
            refine pe_iconstv (n := 0) (v := 0) (by decide +kernel) (by decide +kernel) ?_
            refine pe_goto (off := 23) (t := 70) (by decide +kernel) (by decide) rfl ?_
            exact pe_iret (by decide +kernel) rfl rfl ⟨f14, A15, 0, rfl, hIq13, (fun k n14 n15 n16 => (hGq13 k n14 n15)), (fun k n152 n153 => (hFq13 k n152)), Or.inl ⟨rfl, trivial⟩⟩
          · skip
            refine pe_iconstv (n := 1) (v := 1) (by decide +kernel) (by decide +kernel) ?_
            refine pe_goto (off := 27) (t := 70) (by decide +kernel) (by decide) rfl ?_
            exact pe_iret (by decide +kernel) rfl rfl ⟨f14, A15, 1, rfl, hIq13, (fun k n14 n15 n16 => (hGq13 k n14 n15)), (fun k n152 n153 => (hFq13 k n152)), Or.inr (⟨rfl, (by omega)⟩)⟩
        · skip
          refine pe_aload_n (j := 0) (by decide +kernel) rfl ?_
          refine pe_iconstv (n := 1) (v := 1) (by decide +kernel) (by decide +kernel) ?_
          refine pe_iload_n (j := 2) (by decide +kernel) rfl ?_
          refine pi_V (j := 153) (mj := 200) (by decide +kernel) (cll_V (args := [.int x2, .int 1]) (n := 2) (by decide +kernel) rfl rfl (md_o hc) (by decide +kernel) (Nat.le_of_ble_eq_true rfl) (Nat.le_of_ble_eq_true rfl)) ?_
          show pmE pg X pg_tyl pg_cl (d + 5) 200 0 [.ref 147, .int 1, .int x2] [] (md wc f A) _
          refine pe_iload_n (j := 2) (by decide +kernel) rfl ?_
          refine pe_iconstv (n := 0) (v := 0) (by decide +kernel) (by decide +kernel) ?_
          refine pe_aload_n (j := 0) (by decide +kernel) rfl ?_
          refine pe_get (j := 7) (ci := 12) (n := 0) (by decide +kernel) (by decide +kernel) (md_o hc) rfl ?_
          refine pe_iload_n (j := 1) (by decide +kernel) rfl ?_
          refine mz_ld148 (by decide +kernel) hc hI kz_1 (by omega) (by omega) (fun v18 ev18 pv18 => ?_)
          have rv18 : 0 ≤ v18.toInt ∧ v18.toInt ≤ 3 := MT_c1 pv18 (by omega)
          clear pv18
          refine pe_iconstv (n := 1) (v := 1) (by decide +kernel) (by decide +kernel) ?_
          refine pz_sub (by decide +kernel) rfl kz_1 (by omega) (by omega) (fun z19 hz19 => ?_)
          refine pi_S (j := 119) (mj := 199) (by decide +kernel) (by decide +kernel) rfl ?_
          show pmE pg X pg_tyl pg_cl (d + 4) 199 0 [.int x2, .int 0, .int z19] [] (md wc f A) _
          refine pe_iload_n (j := 0) (by decide +kernel) rfl ?_
          refine pe_iload_n (j := 1) (by decide +kernel) rfl ?_
          refine pz_icmp_lt (off := 12) (t := 14) (by decide +kernel) (by decide) rfl rfl kz_0 (fun h20 => ?_) (fun h20 => ?_)
          · skip
            refine pe_iconstv (n := 0) (v := 0) (by decide +kernel) (by decide +kernel) ?_
            refine pe_iret (by decide +kernel) rfl rfl ⟨rfl, rfl, ?_⟩
            show pmE pg X pg_tyl pg_cl (d + 5) 200 13 [.ref 147, .int 1, .int x2] [.int 0] (md wc f A) _
            refine pe_iret (by decide +kernel) rfl rfl ⟨rfl, rfl, ?_⟩
            show pmE pg X pg_tyl pg_cl (d + 6) 246 24 [.ref 147, .int x1, .int x2, .int x3] [.int 0] (md wc f A) _
            refine pz_if_ne (off := 5) (t := 29) (by decide +kernel) (by decide) rfl kz_0 (fun h21 => by omega) (fun h21 => ?_)
            refine pe_iconstv (n := 0) (v := 0) (by decide +kernel) (by decide +kernel) ?_
            exact pe_iret (by decide +kernel) rfl rfl ⟨f, A, 0, rfl, hI, (fun k n14 n15 n16 => rfl), (fun k n152 n153 => rfl), Or.inl ⟨rfl, trivial⟩⟩
          · skip
            refine pe_iload_n (j := 0) (by decide +kernel) rfl ?_
            refine pe_iload_n (j := 2) (by decide +kernel) rfl ?_
            refine pz_icmp_gt (off := 7) (t := 14) (by decide +kernel) (by decide) rfl rfl hz19 (fun h22 => ?_) (fun h22 => ?_)
            · skip
              refine pe_iconstv (n := 0) (v := 0) (by decide +kernel) (by decide +kernel) ?_
              refine pe_iret (by decide +kernel) rfl rfl ⟨rfl, rfl, ?_⟩
              show pmE pg X pg_tyl pg_cl (d + 5) 200 13 [.ref 147, .int 1, .int x2] [.int 0] (md wc f A) _
              refine pe_iret (by decide +kernel) rfl rfl ⟨rfl, rfl, ?_⟩
              show pmE pg X pg_tyl pg_cl (d + 6) 246 24 [.ref 147, .int x1, .int x2, .int x3] [.int 0] (md wc f A) _
              refine pz_if_ne (off := 5) (t := 29) (by decide +kernel) (by decide) rfl kz_0 (fun h23 => by omega) (fun h23 => ?_)
              refine pe_iconstv (n := 0) (v := 0) (by decide +kernel) (by decide +kernel) ?_
              exact pe_iret (by decide +kernel) rfl rfl ⟨f, A, 0, rfl, hI, (fun k n14 n15 n16 => rfl), (fun k n152 n153 => rfl), Or.inl ⟨rfl, trivial⟩⟩
            · skip
              refine pe_iconstv (n := 1) (v := 1) (by decide +kernel) (by decide +kernel) ?_
              refine pe_goto (off := 4) (t := 15) (by decide +kernel) (by decide) rfl ?_
              refine pe_iret (by decide +kernel) rfl rfl ⟨rfl, rfl, ?_⟩
              show pmE pg X pg_tyl pg_cl (d + 5) 200 13 [.ref 147, .int 1, .int x2] [.int 1] (md wc f A) _
              refine pe_iret (by decide +kernel) rfl rfl ⟨rfl, rfl, ?_⟩
              show pmE pg X pg_tyl pg_cl (d + 6) 246 24 [.ref 147, .int x1, .int x2, .int x3] [.int 1] (md wc f A) _
              refine pz_if_ne (off := 5) (t := 29) (by decide +kernel) (by decide) rfl kz_1 (fun h24 => ?_) (fun h24 => by omega)
              refine pe_aload_n (j := 0) (by decide +kernel) rfl ?_
              refine pz_callV (j := 214) (mj := 229) (by decide +kernel) (cll_V (args := []) (n := 0) (by decide +kernel) rfl rfl (md_o hc) (by decide +kernel) (Nat.le_of_ble_eq_true rfl) (Nat.le_of_ble_eq_true rfl)) (MM_229 hc hI) (fun q25a q25b q25c q25d hqq25 => ?_)
              obtain ⟨f26, A27, eq25, hIq25, hGq25, hFq25, hX0q25, kq25⟩ := hqq25
              cases eq25
              refine ⟨rfl, rfl, ?_⟩
              have hr_14_f26 := hIq25.1 14
              simp only [MF] at hr_14_f26
              show pmE pg X pg_tyl pg_cl (d + 6) 246 33 [.ref 147, .int x1, .int x2, .int x3] [] (md wc f26 A27) _
              refine pe_iload_n (j := 2) (by decide +kernel) rfl ?_
              refine pe_iconstv (n := (-1)) (v := (-1)) (by decide +kernel) (by decide +kernel) ?_
              refine pz_icmp_ne (off := 15) (t := 50) (by decide +kernel) (by decide) rfl rfl kz_m1 (fun h28 => ?_) (fun h28 => by omega)
              refine pe_aload_n (j := 0) (by decide +kernel) rfl ?_
              refine pe_iconstv (n := 0) (v := 0) (by decide +kernel) (by decide +kernel) ?_
              refine pe_iload_n (j := 1) (by decide +kernel) rfl ?_
              refine pi_S (j := 163) (mj := 217) (by decide +kernel) (by decide +kernel) rfl ?_
              show pmE pg X pg_tyl pg_cl (d + 5) 217 0 [.int 0, .int x1] [] (md wc f26 A27) _
              refine pe_iload_n (j := 0) (by decide +kernel) rfl ?_
              refine pz_if_ne (off := 15) (t := 16) (by decide +kernel) (by decide) rfl kz_0 (fun h29 => by omega) (fun h29 => ?_)
              refine pe_sipushv (n := 610) (v := 610) (by decide +kernel) (by decide +kernel) ?_
              refine pe_sipushv (n := 132) (v := 132) (by decide +kernel) (by decide +kernel) ?_
              refine pe_iload_n (j := 1) (by decide +kernel) rfl ?_
              refine pz_mul (by decide +kernel) kz_132 rfl (by omega) (by omega) (fun z30 hz30 => ?_)
              refine pz_add (by decide +kernel) kz_610 hz30 (by omega) (by omega) (fun z31 hz31 => ?_)
              clear hz30
              refine pe_goto (off := 12) (t := 25) (by decide +kernel) (by decide) rfl ?_
              refine pe_iret (by decide +kernel) rfl rfl ⟨rfl, rfl, ?_⟩
              show pmE pg X pg_tyl pg_cl (d + 6) 246 56 [.ref 147, .int x1, .int x2, .int x3] [.int z31, .ref 147] (md wc f26 A27) _
              refine pe_iload_n (j := 2) (by decide +kernel) rfl ?_
              refine pe_iload_n (j := 3) (by decide +kernel) rfl ?_
              refine pz_callV (j := 226) (mj := 228) (by decide +kernel) (cll_V (args := [.int x3, .int x2, .int z31]) (n := 3) (by decide +kernel) rfl rfl (md_o hc) (by decide +kernel) (Nat.le_of_ble_eq_true rfl) (Nat.le_of_ble_eq_true rfl)) (MM_228 hc hIq25 (by omega) (by omega)) (fun q32a q32b q32c q32d hqq32 => ?_)
              obtain ⟨f33, A34, rq32, eq32, hIq32, hGq32, hFq32, kq32⟩ := hqq32
              cases eq32
              refine ⟨rfl, rfl, ?_⟩
              show pmE pg X pg_tyl pg_cl (d + 6) 246 61 [.ref 147, .int x1, .int x2, .int x3] [.int rq32] (md wc f33 A34) _
              refine pe_iload_n (j := 3) (by decide +kernel) rfl ?_
              refine pz_icmp_ne (off := 7) (t := 69) (by decide +kernel) (by decide) rfl rfl rfl (fun h35 => ?_) (fun h35 => ?_)
              · skip
                refine pe_iconstv (n := 0) (v := 0) (by decide +kernel) (by decide +kernel) ?_
                exact pe_iret (by decide +kernel) rfl rfl ⟨f33, A34, 0, rfl, hIq32, (fun k n14 n15 n16 => ((hGq32 k n14 n15 n16)).trans ((hGq25 k n14 n15))), (fun k n152 n153 => ((hFq32 k n152 n153)).trans ((hFq25 k n152))), Or.inl ⟨rfl, trivial⟩⟩
              · skip
                refine pe_iconstv (n := 1) (v := 1) (by decide +kernel) (by decide +kernel) ?_
                refine pe_goto (off := 4) (t := 70) (by decide +kernel) (by decide) rfl ?_
                exact pe_iret (by decide +kernel) rfl rfl ⟨f33, A34, 1, rfl, hIq32, (fun k n14 n15 n16 => ((hGq32 k n14 n15 n16)).trans ((hGq25 k n14 n15))), (fun k n152 n153 => ((hFq32 k n152 n153)).trans ((hFq25 k n152))), Or.inr (⟨rfl, (by omega)⟩)⟩
set_option maxRecDepth 100000 in
set_option maxHeartbeats 8000000 in
theorem MM_245 {X : pm_X} {d : Nat} {wc : pm_W} {f : Nat → Int32} {A : Nat → List Int32} {x1 x2 x3 x4 x5 : Int32} (hc : wc.length = 147) (hI : MI f A) : pmE pg X pg_tyl pg_cl (d + 7) 245 0 (pm_ent (pm_max pg 245) [.ref 147, .int x1, .int x2, .int x3, .int x4, .int x5]) [] (md wc f A) (fun q => ∃ (f' : Nat → Int32) (A' : Nat → List Int32) (r : Int32), q = (some (.int r), md wc f' A', 0, 0) ∧ MI f' A' ∧ (∀ k : Nat, k ≠ 14 → k ≠ 15 → k ≠ 16 → f' k = f k) ∧ (∀ k : Nat, k ≠ 152 → k ≠ 153 → A' k = A k) ∧ ((r = 0 ∧ True) ∨ (r = 1 ∧ (0 ≤ x1.toInt ∧ x1.toInt ≤ 1) ∧ ((-1) ≤ x2.toInt ∧ x2.toInt ≤ 2) ∧ (0 ≤ x3.toInt ∧ x3.toInt ≤ 30) ∧ (0 ≤ x4.toInt ∧ x4.toInt ≤ 8) ∧ (0 ≤ x5.toInt ∧ x5.toInt ≤ 8)))) := by
  show pmE pg X pg_tyl pg_cl (d + 7) 245 0 [.ref 147, .int x1, .int x2, .int x3, .int x4, .int x5] [] (md wc f A) _
  refine pe_aload_n (j := 0) (by decide +kernel) rfl ?_
  refine pe_iload_n (j := 1) (by decide +kernel) rfl ?_
  refine pe_iload_n (j := 2) (by decide +kernel) rfl ?_
  refine pe_iload_n (j := 3) (by decide +kernel) rfl ?_
  refine pz_callV (j := 232) (mj := 246) (by decide +kernel) (cll_V (args := [.int x3, .int x2, .int x1]) (n := 3) (by decide +kernel) rfl rfl (md_o hc) (by decide +kernel) (Nat.le_of_ble_eq_true rfl) (Nat.le_of_ble_eq_true rfl)) (MM_246 hc hI) (fun q1a q1b q1c q1d hqq1 => ?_)
  obtain ⟨f2, A3, rq1, eq1, hIq1, hGq1, hFq1, kq1⟩ := hqq1
  cases eq1
  refine ⟨rfl, rfl, ?_⟩
  rcases kq1 with kq1 | kq1
  · skip
    obtain ⟨erq1, kq1⟩ := kq1
    subst erq1
    show pmE pg X pg_tyl pg_cl (d + 7) 245 7 [.ref 147, .int x1, .int x2, .int x3, .int x4, .int x5] [.int 0] (md wc f2 A3) _
    refine pz_if_eq (off := 35) (t := 42) (by decide +kernel) (by decide) rfl kz_0 (fun h4 => ?_) (fun h4 => by omega)
    refine pe_iconstv (n := 0) (v := 0) (by decide +kernel) (by decide +kernel) ?_
    exact pe_iret (by decide +kernel) rfl rfl ⟨f2, A3, 0, rfl, hIq1, (fun k n14 n15 n16 => (hGq1 k n14 n15 n16)), (fun k n152 n153 => (hFq1 k n152 n153)), Or.inl ⟨rfl, trivial⟩⟩
  · skip
    obtain ⟨erq1, kq1⟩ := kq1
    subst erq1
    show pmE pg X pg_tyl pg_cl (d + 7) 245 7 [.ref 147, .int x1, .int x2, .int x3, .int x4, .int x5] [.int 1] (md wc f2 A3) _
    refine pz_if_eq (off := 35) (t := 42) (by decide +kernel) (by decide) rfl kz_1 (fun h5 => by omega) (fun h5 => ?_)
    refine pe_aload_n (j := 0) (by decide +kernel) rfl ?_
    refine pe_iconstv (n := 0) (v := 0) (by decide +kernel) (by decide +kernel) ?_
    refine pe_iload_n (j := 1) (by decide +kernel) rfl ?_
    refine pi_S (j := 163) (mj := 217) (by decide +kernel) (by decide +kernel) rfl ?_
    show pmE pg X pg_tyl pg_cl (d + 6) 217 0 [.int 0, .int x1] [] (md wc f2 A3) _
    refine pe_iload_n (j := 0) (by decide +kernel) rfl ?_
    refine pz_if_ne (off := 15) (t := 16) (by decide +kernel) (by decide) rfl kz_0 (fun h6 => by omega) (fun h6 => ?_)
    refine pe_sipushv (n := 610) (v := 610) (by decide +kernel) (by decide +kernel) ?_
    refine pe_sipushv (n := 132) (v := 132) (by decide +kernel) (by decide +kernel) ?_
    refine pe_iload_n (j := 1) (by decide +kernel) rfl ?_
    refine pz_mul (by decide +kernel) kz_132 rfl (by omega) (by omega) (fun z7 hz7 => ?_)
    refine pz_add (by decide +kernel) kz_610 hz7 (by omega) (by omega) (fun z8 hz8 => ?_)
    clear hz7
    refine pe_goto (off := 12) (t := 25) (by decide +kernel) (by decide) rfl ?_
    refine pe_iret (by decide +kernel) rfl rfl ⟨rfl, rfl, ?_⟩
    show pmE pg X pg_tyl pg_cl (d + 7) 245 16 [.ref 147, .int x1, .int x2, .int x3, .int x4, .int x5] [.int z8, .ref 147] (md wc f2 A3) _
    refine pe_iload (j := 4) (by decide +kernel) rfl ?_
    refine pi_V (j := 166) (mj := 221) (by decide +kernel) (cll_V (args := [.int x4, .int z8]) (n := 2) (by decide +kernel) rfl rfl (md_o hc) (by decide +kernel) (Nat.le_of_ble_eq_true rfl) (Nat.le_of_ble_eq_true rfl)) ?_
    show pmE pg X pg_tyl pg_cl (d + 6) 221 0 [.ref 147, .int z8, .int x4] [] (md wc f2 A3) _
    refine pe_iload_n (j := 2) (by decide +kernel) rfl ?_
    refine pe_iconstv (n := 0) (v := 0) (by decide +kernel) (by decide +kernel) ?_
    refine pe_aload_n (j := 0) (by decide +kernel) rfl ?_
    refine pe_get (j := 7) (ci := 12) (n := 0) (by decide +kernel) (by decide +kernel) (md_o hc) rfl ?_
    refine pe_iload_n (j := 1) (by decide +kernel) rfl ?_
    refine mz_ld148 (by decide +kernel) hc hIq1 hz8 (by omega) (by omega) (fun v9 ev9 pv9 => ?_)
    rw [show A3 148 = A 148 from (hFq1 148 (by decide) (by decide))] at ev9
    have rv9 : 0 ≤ v9.toInt ∧ v9.toInt ≤ 9 := MT_people pv9 (by omega)
    clear pv9
    refine pe_iconstv (n := 1) (v := 1) (by decide +kernel) (by decide +kernel) ?_
    refine pz_sub (by decide +kernel) rfl kz_1 (by omega) (by omega) (fun z10 hz10 => ?_)
    refine pi_S (j := 119) (mj := 199) (by decide +kernel) (by decide +kernel) rfl ?_
    show pmE pg X pg_tyl pg_cl (d + 5) 199 0 [.int x4, .int 0, .int z10] [] (md wc f2 A3) _
    refine pe_iload_n (j := 0) (by decide +kernel) rfl ?_
    refine pe_iload_n (j := 1) (by decide +kernel) rfl ?_
    have lw12 := zi_lo x4
    have uw12 := zi_hi x4
    refine pz_icmp_lt (off := 12) (t := 14) (by decide +kernel) (by decide) rfl rfl kz_0 (fun h11 => ?_) (fun h11 => ?_)
    · skip
      refine pe_iconstv (n := 0) (v := 0) (by decide +kernel) (by decide +kernel) ?_
      refine pe_iret (by decide +kernel) rfl rfl ⟨rfl, rfl, ?_⟩
      show pmE pg X pg_tyl pg_cl (d + 6) 221 13 [.ref 147, .int z8, .int x4] [.int 0] (md wc f2 A3) _
      refine pe_iret (by decide +kernel) rfl rfl ⟨rfl, rfl, ?_⟩
      show pmE pg X pg_tyl pg_cl (d + 7) 245 21 [.ref 147, .int x1, .int x2, .int x3, .int x4, .int x5] [.int 0] (md wc f2 A3) _
      refine pz_if_eq (off := 21) (t := 42) (by decide +kernel) (by decide) rfl kz_0 (fun h13 => ?_) (fun h13 => by omega)
      refine pe_iconstv (n := 0) (v := 0) (by decide +kernel) (by decide +kernel) ?_
      exact pe_iret (by decide +kernel) rfl rfl ⟨f2, A3, 0, rfl, hIq1, (fun k n14 n15 n16 => (hGq1 k n14 n15 n16)), (fun k n152 n153 => (hFq1 k n152 n153)), Or.inl ⟨rfl, trivial⟩⟩
    · skip
      refine pe_iload_n (j := 0) (by decide +kernel) rfl ?_
      refine pe_iload_n (j := 2) (by decide +kernel) rfl ?_
      refine pz_icmp_gt (off := 7) (t := 14) (by decide +kernel) (by decide) rfl rfl hz10 (fun h14 => ?_) (fun h14 => ?_)
      · skip
        refine pe_iconstv (n := 0) (v := 0) (by decide +kernel) (by decide +kernel) ?_
        refine pe_iret (by decide +kernel) rfl rfl ⟨rfl, rfl, ?_⟩
        show pmE pg X pg_tyl pg_cl (d + 6) 221 13 [.ref 147, .int z8, .int x4] [.int 0] (md wc f2 A3) _
        refine pe_iret (by decide +kernel) rfl rfl ⟨rfl, rfl, ?_⟩
        show pmE pg X pg_tyl pg_cl (d + 7) 245 21 [.ref 147, .int x1, .int x2, .int x3, .int x4, .int x5] [.int 0] (md wc f2 A3) _
        refine pz_if_eq (off := 21) (t := 42) (by decide +kernel) (by decide) rfl kz_0 (fun h15 => ?_) (fun h15 => by omega)
        refine pe_iconstv (n := 0) (v := 0) (by decide +kernel) (by decide +kernel) ?_
        exact pe_iret (by decide +kernel) rfl rfl ⟨f2, A3, 0, rfl, hIq1, (fun k n14 n15 n16 => (hGq1 k n14 n15 n16)), (fun k n152 n153 => (hFq1 k n152 n153)), Or.inl ⟨rfl, trivial⟩⟩
      · skip
        refine pe_iconstv (n := 1) (v := 1) (by decide +kernel) (by decide +kernel) ?_
        refine pe_goto (off := 4) (t := 15) (by decide +kernel) (by decide) rfl ?_
        refine pe_iret (by decide +kernel) rfl rfl ⟨rfl, rfl, ?_⟩
        show pmE pg X pg_tyl pg_cl (d + 6) 221 13 [.ref 147, .int z8, .int x4] [.int 1] (md wc f2 A3) _
        refine pe_iret (by decide +kernel) rfl rfl ⟨rfl, rfl, ?_⟩
        show pmE pg X pg_tyl pg_cl (d + 7) 245 21 [.ref 147, .int x1, .int x2, .int x3, .int x4, .int x5] [.int 1] (md wc f2 A3) _
        refine pz_if_eq (off := 21) (t := 42) (by decide +kernel) (by decide) rfl kz_1 (fun h16 => by omega) (fun h16 => ?_)
        refine pe_aload_n (j := 0) (by decide +kernel) rfl ?_
        refine pe_iconstv (n := 0) (v := 0) (by decide +kernel) (by decide +kernel) ?_
        refine pe_iload_n (j := 1) (by decide +kernel) rfl ?_
        refine pi_S (j := 163) (mj := 217) (by decide +kernel) (by decide +kernel) rfl ?_
        show pmE pg X pg_tyl pg_cl (d + 6) 217 0 [.int 0, .int x1] [] (md wc f2 A3) _
        refine pe_iload_n (j := 0) (by decide +kernel) rfl ?_
        refine pz_if_ne (off := 15) (t := 16) (by decide +kernel) (by decide) rfl kz_0 (fun h17 => by omega) (fun h17 => ?_)
        refine pe_sipushv (n := 610) (v := 610) (by decide +kernel) (by decide +kernel) ?_
        refine pe_sipushv (n := 132) (v := 132) (by decide +kernel) (by decide +kernel) ?_
        refine pe_iload_n (j := 1) (by decide +kernel) rfl ?_
        refine pz_mul (by decide +kernel) kz_132 rfl (by omega) (by omega) (fun z18 hz18 => ?_)
        refine pz_add (by decide +kernel) kz_610 hz18 (by omega) (by omega) (fun z19 hz19 => ?_)
        clear hz18
        refine pe_goto (off := 12) (t := 25) (by decide +kernel) (by decide) rfl ?_
        refine pe_iret (by decide +kernel) rfl rfl ⟨rfl, rfl, ?_⟩
        show pmE pg X pg_tyl pg_cl (d + 7) 245 30 [.ref 147, .int x1, .int x2, .int x3, .int x4, .int x5] [.int z19, .ref 147] (md wc f2 A3) _
        refine pe_iload (j := 5) (by decide +kernel) rfl ?_
        refine pi_V (j := 166) (mj := 221) (by decide +kernel) (cll_V (args := [.int x5, .int z19]) (n := 2) (by decide +kernel) rfl rfl (md_o hc) (by decide +kernel) (Nat.le_of_ble_eq_true rfl) (Nat.le_of_ble_eq_true rfl)) ?_
        show pmE pg X pg_tyl pg_cl (d + 6) 221 0 [.ref 147, .int z19, .int x5] [] (md wc f2 A3) _
        refine pe_iload_n (j := 2) (by decide +kernel) rfl ?_
        refine pe_iconstv (n := 0) (v := 0) (by decide +kernel) (by decide +kernel) ?_
        refine pe_aload_n (j := 0) (by decide +kernel) rfl ?_
        refine pe_get (j := 7) (ci := 12) (n := 0) (by decide +kernel) (by decide +kernel) (md_o hc) rfl ?_
        refine pe_iload_n (j := 1) (by decide +kernel) rfl ?_
        refine mz_ld148 (by decide +kernel) hc hIq1 hz19 (by omega) (by omega) (fun v20 ev20 pv20 => ?_)
        rw [show A3 148 = A 148 from (hFq1 148 (by decide) (by decide))] at ev20
        rw [ev20.trans ev9.symm]
        clear pv20 ev20 v20
        refine pe_iconstv (n := 1) (v := 1) (by decide +kernel) (by decide +kernel) ?_
        refine pz_sub (by decide +kernel) rfl kz_1 (by omega) (by omega) (fun z21 hz21 => ?_)
        refine pi_S (j := 119) (mj := 199) (by decide +kernel) (by decide +kernel) rfl ?_
        show pmE pg X pg_tyl pg_cl (d + 5) 199 0 [.int x5, .int 0, .int z21] [] (md wc f2 A3) _
        refine pe_iload_n (j := 0) (by decide +kernel) rfl ?_
        refine pe_iload_n (j := 1) (by decide +kernel) rfl ?_
        have lw23 := zi_lo x5
        have uw23 := zi_hi x5
        refine pz_icmp_lt (off := 12) (t := 14) (by decide +kernel) (by decide) rfl rfl kz_0 (fun h22 => ?_) (fun h22 => ?_)
        · skip
          refine pe_iconstv (n := 0) (v := 0) (by decide +kernel) (by decide +kernel) ?_
          refine pe_iret (by decide +kernel) rfl rfl ⟨rfl, rfl, ?_⟩
          show pmE pg X pg_tyl pg_cl (d + 6) 221 13 [.ref 147, .int z19, .int x5] [.int 0] (md wc f2 A3) _
          refine pe_iret (by decide +kernel) rfl rfl ⟨rfl, rfl, ?_⟩
          show pmE pg X pg_tyl pg_cl (d + 7) 245 35 [.ref 147, .int x1, .int x2, .int x3, .int x4, .int x5] [.int 0] (md wc f2 A3) _
          refine pz_if_eq (off := 7) (t := 42) (by decide +kernel) (by decide) rfl kz_0 (fun h24 => ?_) (fun h24 => by omega)
          refine pe_iconstv (n := 0) (v := 0) (by decide +kernel) (by decide +kernel) ?_
          exact pe_iret (by decide +kernel) rfl rfl ⟨f2, A3, 0, rfl, hIq1, (fun k n14 n15 n16 => (hGq1 k n14 n15 n16)), (fun k n152 n153 => (hFq1 k n152 n153)), Or.inl ⟨rfl, trivial⟩⟩
        · skip
          refine pe_iload_n (j := 0) (by decide +kernel) rfl ?_
          refine pe_iload_n (j := 2) (by decide +kernel) rfl ?_
          refine pz_icmp_gt (off := 7) (t := 14) (by decide +kernel) (by decide) rfl rfl hz21 (fun h25 => ?_) (fun h25 => ?_)
          · skip
            refine pe_iconstv (n := 0) (v := 0) (by decide +kernel) (by decide +kernel) ?_
            refine pe_iret (by decide +kernel) rfl rfl ⟨rfl, rfl, ?_⟩
            show pmE pg X pg_tyl pg_cl (d + 6) 221 13 [.ref 147, .int z19, .int x5] [.int 0] (md wc f2 A3) _
            refine pe_iret (by decide +kernel) rfl rfl ⟨rfl, rfl, ?_⟩
            show pmE pg X pg_tyl pg_cl (d + 7) 245 35 [.ref 147, .int x1, .int x2, .int x3, .int x4, .int x5] [.int 0] (md wc f2 A3) _
            refine pz_if_eq (off := 7) (t := 42) (by decide +kernel) (by decide) rfl kz_0 (fun h26 => ?_) (fun h26 => by omega)
            refine pe_iconstv (n := 0) (v := 0) (by decide +kernel) (by decide +kernel) ?_
            exact pe_iret (by decide +kernel) rfl rfl ⟨f2, A3, 0, rfl, hIq1, (fun k n14 n15 n16 => (hGq1 k n14 n15 n16)), (fun k n152 n153 => (hFq1 k n152 n153)), Or.inl ⟨rfl, trivial⟩⟩
          · skip
            refine pe_iconstv (n := 1) (v := 1) (by decide +kernel) (by decide +kernel) ?_
            refine pe_goto (off := 4) (t := 15) (by decide +kernel) (by decide) rfl ?_
            refine pe_iret (by decide +kernel) rfl rfl ⟨rfl, rfl, ?_⟩
            show pmE pg X pg_tyl pg_cl (d + 6) 221 13 [.ref 147, .int z19, .int x5] [.int 1] (md wc f2 A3) _
            refine pe_iret (by decide +kernel) rfl rfl ⟨rfl, rfl, ?_⟩
            show pmE pg X pg_tyl pg_cl (d + 7) 245 35 [.ref 147, .int x1, .int x2, .int x3, .int x4, .int x5] [.int 1] (md wc f2 A3) _
            refine pz_if_eq (off := 7) (t := 42) (by decide +kernel) (by decide) rfl kz_1 (fun h27 => by omega) (fun h27 => ?_)
            refine pe_iconstv (n := 1) (v := 1) (by decide +kernel) (by decide +kernel) ?_
            refine pe_goto (off := 4) (t := 43) (by decide +kernel) (by decide) rfl ?_
            exact pe_iret (by decide +kernel) rfl rfl ⟨f2, A3, 1, rfl, hIq1, (fun k n14 n15 n16 => (hGq1 k n14 n15 n16)), (fun k n152 n153 => (hFq1 k n152 n153)), Or.inr (⟨rfl, (by omega)⟩)⟩
