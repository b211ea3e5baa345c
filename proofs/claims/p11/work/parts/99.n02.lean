set_option maxRecDepth 100000 in
set_option maxHeartbeats 8000000 in
theorem NL_228_12 {X : pm_X} {d : Nat} {wc : pm_W} {Q : pm_R → Prop} {f0 : Nat → Int32} {A0 : Nat → List Int32} {x1 x2 x3 : Int32} (hc : wc.length = 147) (gx1 : (610 ≤ x1.toInt ∧ x1.toInt ≤ 742 ∧ (x1.toInt - 610) % 132 = 0)) (gx2 : (0 ≤ x2.toInt ∧ x2.toInt ≤ 2)) (k_81_0 : ∀ (f' : Nat → Int32) (A' : Nat → List Int32) (y4 : Int32), MI f' A' → (∀ k : Nat, k ≠ 14 → k ≠ 15 → k ≠ 16 → f' k = f0 k) → (∀ k : Nat, k ≠ 152 → k ≠ 153 → A' k = A0 k) → (0 ≤ y4.toInt ∧ y4.toInt ≤ 30) → DF (A' 152) (fr (A0 148) x1.toInt) 17820 → pmE pg X pg_tyl pg_cl (d + 5) 228 81 [.ref 147, .int x1, .int x2, .int x3, .int y4] [] (md wc f' A') Q) : ∀ (m : Nat) (f : Nat → Int32) (A : Nat → List Int32) (x4 : Int32), MI f A → (∀ k : Nat, k ≠ 14 → k ≠ 15 → k ≠ 16 → f k = f0 k) → (∀ k : Nat, k ≠ 152 → k ≠ 153 → A k = A0 k) → (0 ≤ x4.toInt ∧ x4.toInt ≤ 30) → ((f 14).toInt + (-1) * x4.toInt) ≤ 0 → DF (A 152) (fr (A0 148) x1.toInt) (594 * x4.toInt) → RG (A 153) (f 14).toInt → 30 - x4.toInt < (m : Int) → pmE pg X pg_tyl pg_cl (d + 5) 228 12 [.ref 147, .int x1, .int x2, .int x3, .int x4] [] (md wc f A) Q := by
  intro m
  induction m with
  | zero =>
    intro f A x4 hI hG hF gx4 hxi0 hpi0 hpi1 hm
    exfalso
    have l0 := zi_lo x4
    have u0 := zi_hi x4
    omega
  | succ m ih =>
    intro f A x4 hI hG hF gx4 hxi0 hpi0 hpi1 hm
    have hr_f_14 := mf_14 hI
    refine pe_iload (j := 4) (by decide +kernel) rfl ?_
    refine pe_iload_n (j := 3) (by decide +kernel) rfl ?_
    have lw2 := zi_lo x3
    have uw2 := zi_hi x3
    refine pz_icmp_ge (off := 66) (t := 81) (by decide +kernel) (by decide) rfl rfl rfl (fun h1 => ?_) (fun h1 => ?_)
    · skip
      exact k_81_0 f A x4 hI (fun k n14 n15 n16 => (hG k n14 n15 n16)) (fun k n152 n153 => (hF k n152 n153)) (by omega) (DF_up hpi0 (by omega))
    · skip
      refine pe_iload (j := 4) (by decide +kernel) rfl ?_
      refine pe_aload_n (j := 0) (by decide +kernel) rfl ?_
      refine pe_get (j := 7) (ci := 12) (n := 0) (by decide +kernel) (by decide +kernel) (md_o hc) rfl ?_
      refine pe_iconstv (n := 1) (v := 1) (by decide +kernel) (by decide +kernel) ?_
      refine pe_iload_n (j := 2) (by decide +kernel) rfl ?_
      refine pi_S (j := 163) (mj := 217) (by decide +kernel) (by decide +kernel) rfl ?_
      show pmE pg X pg_tyl pg_cl (d + 4) 217 0 [.int 1, .int x2] [] (md wc f A) _
      refine pe_iload_n (j := 0) (by decide +kernel) rfl ?_
      refine pz_if_ne (off := 15) (t := 16) (by decide +kernel) (by decide) rfl kz_1 (fun h3 => ?_) (fun h3 => by omega)
      refine pe_sipushv (n := 874) (v := 874) (by decide +kernel) (by decide +kernel) ?_
      refine pe_sipushv (n := 272) (v := 272) (by decide +kernel) (by decide +kernel) ?_
      refine pe_iload_n (j := 1) (by decide +kernel) rfl ?_
      refine pz_mul (by decide +kernel) kz_272 rfl (by omega) (by omega) (fun z4 hz4 => ?_)
      refine pz_add (by decide +kernel) kz_874 hz4 (by omega) (by omega) (fun z5 hz5 => ?_)
      clear hz4
      refine pe_iret (by decide +kernel) rfl rfl ⟨rfl, rfl, ?_⟩
      show pmE pg X pg_tyl pg_cl (d + 5) 228 29 [.ref 147, .int x1, .int x2, .int x3, .int x4] [.int z5, .ref 148, .int x4] (md wc f A) _
      refine pz_iald (by decide +kernel) (md_a148 hc) (mlen_148 hI) hz5 (by omega) (by omega) (fun v6 ev6 => ?_)
      have rv6 : 0 ≤ v6.toInt ∧ v6.toInt ≤ 30 := MT_acts (mt_148 hI ev6 (by omega)) (by omega)
      rw [show A 148 = A0 148 from (hF 148 (by decide) (by decide))] at ev6
      clear hz5
      refine pz_icmp_ge (off := 51) (t := 81) (by decide +kernel) (by decide) rfl rfl rfl (fun h7 => ?_) (fun h7 => ?_)
      · skip
        exact k_81_0 f A x4 hI (fun k n14 n15 n16 => (hG k n14 n15 n16)) (fun k n152 n153 => (hF k n152 n153)) (by omega) (DF_up hpi0 (by omega))
      · skip
        refine pe_aload_n (j := 0) (by decide +kernel) rfl ?_
        refine pe_iload_n (j := 1) (by decide +kernel) rfl ?_
        refine pe_iconstv (n := 1) (v := 1) (by decide +kernel) (by decide +kernel) ?_
        refine pe_iload_n (j := 2) (by decide +kernel) rfl ?_
        refine pi_S (j := 163) (mj := 217) (by decide +kernel) (by decide +kernel) rfl ?_
        show pmE pg X pg_tyl pg_cl (d + 4) 217 0 [.int 1, .int x2] [] (md wc f A) _
        refine pe_iload_n (j := 0) (by decide +kernel) rfl ?_
        refine pz_if_ne (off := 15) (t := 16) (by decide +kernel) (by decide) rfl kz_1 (fun h8 => ?_) (fun h8 => by omega)
        refine pe_sipushv (n := 874) (v := 874) (by decide +kernel) (by decide +kernel) ?_
        refine pe_sipushv (n := 272) (v := 272) (by decide +kernel) (by decide +kernel) ?_
        refine pe_iload_n (j := 1) (by decide +kernel) rfl ?_
        refine pz_mul (by decide +kernel) kz_272 rfl (by omega) (by omega) (fun z9 hz9 => ?_)
        refine pz_add (by decide +kernel) kz_874 hz9 (by omega) (by omega) (fun z10 hz10 => ?_)
        clear hz9
        refine pe_iret (by decide +kernel) rfl rfl ⟨rfl, rfl, ?_⟩
        show pmE pg X pg_tyl pg_cl (d + 5) 228 40 [.ref 147, .int x1, .int x2, .int x3, .int x4] [.int z10, .int x1, .ref 147] (md wc f A) _
        refine pe_iconstv (n := 1) (v := 1) (by decide +kernel) (by decide +kernel) ?_
        refine pz_add (by decide +kernel) hz10 kz_1 (by omega) (by omega) (fun z11 hz11 => ?_)
        clear hz10
        refine pe_bipushv (n := 9) (v := 9) (by decide +kernel) (by decide +kernel) ?_
        refine pe_iload (j := 4) (by decide +kernel) rfl ?_
        refine pz_mul (by decide +kernel) kz_9 rfl (by omega) (by omega) (fun z12 hz12 => ?_)
        refine pz_add (by decide +kernel) hz11 hz12 (by omega) (by omega) (fun z13 hz13 => ?_)
        clear hz11 hz12
        refine pz_callV (j := 220) (mj := 230) (by decide +kernel) (cll_V (args := [.int z13, .int x1]) (n := 2) (by decide +kernel) rfl rfl (md_o hc) (by decide +kernel) (Nat.le_of_ble_eq_true rfl) (Nat.le_of_ble_eq_true rfl)) (NM_230 hc hI (by omega) (by omega) (by omega) (DF_n0 hpi0 (by omega)) hpi1 ⟨x2.toInt, x4.toInt, by omega⟩) (fun q14a q14b q14c q14d hqq14 => ?_)
        obtain ⟨f15, A16, rq14, eq14, hIq14, hGq14, hFq14, hX0q14, kq14⟩ := hqq14
        cases eq14
        refine ⟨rfl, rfl, ?_⟩
        have hr_f15_14 := mf_14 hIq14
        rcases kq14 with kq14 | kq14
        · skip
          obtain ⟨erq14, kq14⟩ := kq14
          subst erq14
          obtain ⟨hp17, hp18, kq14⟩ := kq14
          show pmE pg X pg_tyl pg_cl (d + 5) 228 51 [.ref 147, .int x1, .int x2, .int x3, .int x4] [.int 0] (md wc f15 A16) _
          refine pz_if_eq (off := 30) (t := 81) (by decide +kernel) (by decide) rfl kz_0 (fun h19 => ?_) (fun h19 => by omega)
          exact k_81_0 f15 A16 x4 hIq14 (fun k n14 n15 n16 => ((hGq14 k n14 n15)).trans ((hG k n14 n15 n16))) (fun k n152 n153 => ((hFq14 k n152 n153)).trans ((hF k n152 n153))) (by omega) (DF_up (DF_step hpi0 (by rw [show A0 148 = A 148 from (hF 148 (by decide) (by decide)).symm]; exact hp17)) (by omega))
        · skip
          obtain ⟨erq14, kq14⟩ := kq14
          subst erq14
          obtain ⟨hp20, hp21, kq14⟩ := kq14
          show pmE pg X pg_tyl pg_cl (d + 5) 228 51 [.ref 147, .int x1, .int x2, .int x3, .int x4] [.int 1] (md wc f15 A16) _
          refine pz_if_eq (off := 30) (t := 81) (by decide +kernel) (by decide) rfl kz_1 (fun h22 => by omega) (fun h22 => ?_)
          refine pe_aload_n (j := 0) (by decide +kernel) rfl ?_
          refine pe_get (j := 217) (ci := 12) (n := 16) (by decide +kernel) (by decide +kernel) (md_o hc) rfl ?_
          refine pe_top (v := (f 16)) ((hGq14 16 (by decide) (by decide))) ?_
          have lw24 := zi_lo (f 16)
          have uw24 := zi_hi (f 16)
          refine pz_if_ge (off := 17) (t := 75) (by decide +kernel) (by decide) rfl rfl (fun h23 => ?_) (fun h23 => ?_)
          · skip
            refine pz_iinc (j := 4) (n := 1) (by decide +kernel) rfl rfl (by decide +kernel) (by omega) (by omega) (fun z25 hz25 => ?_)
            show pmE pg X pg_tyl pg_cl (d + 5) 228 78 [.ref 147, .int x1, .int x2, .int x3, .int z25] [] (md wc f15 A16) _
            refine pe_goto (off := (-66)) (t := 12) (by decide +kernel) (by decide) rfl ?_
            exact ih f15 A16 z25 hIq14 (fun k n14 n15 n16 => ((hGq14 k n14 n15)).trans ((hG k n14 n15 n16))) (fun k n152 n153 => ((hFq14 k n152 n153)).trans ((hF k n152 n153))) (by omega) (by omega) (by rw [hz25]; exact DF_step hpi0 (by rw [show A0 148 = A 148 from (hF 148 (by decide) (by decide)).symm]; exact hp20)) hp21 (by omega)
          · skip
            refine pe_aload_n (j := 0) (by decide +kernel) rfl ?_
            refine pe_iload_n (j := 1) (by decide +kernel) rfl ?_
            refine pz_callV (j := 223) (mj := 241) (by decide +kernel) (cll_V (args := [.int x1]) (n := 1) (by decide +kernel) rfl rfl (md_o hc) (by decide +kernel) (Nat.le_of_ble_eq_true rfl) (Nat.le_of_ble_eq_true rfl)) (MM_241 hc hIq14 (by omega)) (fun q27a q27b q27c q27d hqq27 => ?_)
            obtain ⟨rq27, eq27, kq27⟩ := hqq27
            cases eq27
            refine ⟨rfl, rfl, ?_⟩
            show pmE pg X pg_tyl pg_cl (d + 5) 228 66 [.ref 147, .int x1, .int x2, .int x3, .int x4] [.int rq27] (md wc f15 A16) _
            refine pz_if_ne (off := 9) (t := 75) (by decide +kernel) (by decide) rfl rfl (fun h28 => ?_) (fun h28 => ?_)
            · skip
              refine pz_iinc (j := 4) (n := 1) (by decide +kernel) rfl rfl (by decide +kernel) (by omega) (by omega) (fun z29 hz29 => ?_)
              show pmE pg X pg_tyl pg_cl (d + 5) 228 78 [.ref 147, .int x1, .int x2, .int x3, .int z29] [] (md wc f15 A16) _
              refine pe_goto (off := (-66)) (t := 12) (by decide +kernel) (by decide) rfl ?_
              exact ih f15 A16 z29 hIq14 (fun k n14 n15 n16 => ((hGq14 k n14 n15)).trans ((hG k n14 n15 n16))) (fun k n152 n153 => ((hFq14 k n152 n153)).trans ((hF k n152 n153))) (by omega) (by omega) (by rw [hz29]; exact DF_step hpi0 (by rw [show A0 148 = A 148 from (hF 148 (by decide) (by decide)).symm]; exact hp20)) hp21 (by omega)
            · skip
              refine pe_aload_n (j := 0) (by decide +kernel) rfl ?_
              refine pe_iload (j := 4) (by decide +kernel) rfl ?_
              refine mz_put16 (jj := 217) (by decide +kernel) (by decide +kernel) hc hIq14 (fun f31 ef31 hIf31 => ?_)
              refine pz_iinc (j := 4) (n := 1) (by decide +kernel) rfl rfl (by decide +kernel) (by omega) (by omega) (fun z32 hz32 => ?_)
              show pmE pg X pg_tyl pg_cl (d + 5) 228 78 [.ref 147, .int x1, .int x2, .int x3, .int z32] [] (md wc f31 A16) _
              refine pe_goto (off := (-66)) (t := 12) (by decide +kernel) (by decide) rfl ?_
              have hx33 : (f31 14).toInt = (f15 14).toInt := (congrArg Int32.toInt (show f31 14 = (f15 14) from upf_fr ef31 (by decide))).trans rfl
              exact ih f31 A16 z32 hIf31 (fun k n14 n15 n16 => (upf_fr ef31 n16).trans (((hGq14 k n14 n15)).trans ((hG k n14 n15 n16)))) (fun k n152 n153 => ((hFq14 k n152 n153)).trans ((hF k n152 n153))) (by omega) (by omega) (by rw [hz32]; exact DF_step hpi0 (by rw [show A0 148 = A 148 from (hF 148 (by decide) (by decide)).symm]; exact hp20)) (by rw [show f31 14 = f15 14 from upf_fr ef31 (by decide)]; exact hp21) (by omega)
set_option maxRecDepth 100000 in
set_option maxHeartbeats 8000000 in
theorem NM_228 {X : pm_X} {d : Nat} {wc : pm_W} {f : Nat → Int32} {A : Nat → List Int32} {x1 x2 x3 : Int32} (hc : wc.length = 147) (hI : MI f A) (gx1 : (610 ≤ x1.toInt ∧ x1.toInt ≤ 742 ∧ (x1.toInt - 610) % 132 = 0)) (gx2 : (0 ≤ x2.toInt ∧ x2.toInt ≤ 2)) : pmE pg X pg_tyl pg_cl (d + 5) 228 0 (pm_ent (pm_max pg 228) [.ref 147, .int x1, .int x2, .int x3]) [] (md wc f A) (fun q => ∃ (f' : Nat → Int32) (A' : Nat → List Int32) (r : Int32), q = (some (.int r), md wc f' A', 0, 0) ∧ MI f' A' ∧ (∀ k : Nat, k ≠ 14 → k ≠ 15 → k ≠ 16 → f' k = f k) ∧ (∀ k : Nat, k ≠ 152 → k ≠ 153 → A' k = A k) ∧ (((0 ≤ r.toInt ∧ r.toInt ≤ 30) ∧ DF (A' 152) (fr (A 148) x1.toInt) 17820 ∧ True))) := by
  show pmE pg X pg_tyl pg_cl (d + 5) 228 0 [.ref 147, .int x1, .int x2, .int x3, pm_dead] [] (md wc f A) _
  refine pe_aload_n (j := 0) (by decide +kernel) rfl ?_
  refine pz_callV (j := 214) (mj := 229) (by decide +kernel) (cll_V (args := []) (n := 0) (by decide +kernel) rfl rfl (md_o hc) (by decide +kernel) (Nat.le_of_ble_eq_true rfl) (Nat.le_of_ble_eq_true rfl)) (NM_229 hc hI) (fun q1a q1b q1c q1d hqq1 => ?_)
  obtain ⟨f2, A3, eq1, hIq1, hGq1, hFq1, hX0q1, kq1⟩ := hqq1
  cases eq1
  refine ⟨rfl, rfl, ?_⟩
  have hr_f2_14 := mf_14 hIq1
  obtain ⟨hq4, kq1⟩ := kq1
  show pmE pg X pg_tyl pg_cl (d + 5) 228 4 [.ref 147, .int x1, .int x2, .int x3, pm_dead] [] (md wc f2 A3) _
  refine pe_aload_n (j := 0) (by decide +kernel) rfl ?_
  refine pe_iconstv (n := (-1)) (v := (-1)) (by decide +kernel) (by decide +kernel) ?_
  refine mz_put16 (jj := 217) (by decide +kernel) (by decide +kernel) hc hIq1 (fun f5 ef5 hIf5 => ?_)
  refine pe_iconstv (n := 0) (v := 0) (by decide +kernel) (by decide +kernel) ?_
  refine pe_istore (j := 4) (ls' := [.ref 147, .int x1, .int x2, .int x3, .int 0]) (by decide +kernel) (Nat.le_of_ble_eq_true rfl) rfl ?_
  have hx11 : (f5 14).toInt = (f2 14).toInt := (congrArg Int32.toInt (show f5 14 = (f2 14) from upf_fr ef5 (by decide))).trans rfl
  have hl12 := kz_0
  have hx14 : (f5 14).toInt = (f2 14).toInt := (congrArg Int32.toInt (show f5 14 = (f2 14) from upf_fr ef5 (by decide))).trans rfl
  refine NL_228_12 hc (by omega) (by omega) (fun f6 A7 y8 hIy9 hGf6 hFA7 gy8 hp10 => ?_) 31 f5 A3 0 hIf5 (fun k _ _ _ => rfl) (fun k _ _ => rfl) (by decide +kernel) (by omega) (DF_zero hq4 (by rw [kz_0]; decide)) (RG_zero (by omega)) (by decide +kernel)
  refine pe_iload (j := 4) (by decide +kernel) rfl ?_
  exact pe_iret (by decide +kernel) rfl rfl ⟨f6, A7, y8, rfl, hIy9, (fun k n14 n15 n16 => ((hGf6 k n14 n15 n16)).trans ((upf_fr ef5 n16).trans ((hGq1 k n14 n15)))), (fun k n152 n153 => ((hFA7 k n152 n153)).trans ((hFq1 k n152))), ⟨(by omega), (by have h := hp10; rw [show A3 148 = A 148 from (hFq1 148 (by decide))] at h; exact h), trivial⟩⟩
set_option maxRecDepth 100000 in
set_option maxHeartbeats 8000000 in
theorem NM_246 {X : pm_X} {d : Nat} {wc : pm_W} {f : Nat → Int32} {A : Nat → List Int32} {x1 x2 x3 : Int32} (hc : wc.length = 147) (hI : MI f A) : pmE pg X pg_tyl pg_cl (d + 6) 246 0 (pm_ent (pm_max pg 246) [.ref 147, .int x1, .int x2, .int x3]) [] (md wc f A) (fun q => ∃ (f' : Nat → Int32) (A' : Nat → List Int32) (r : Int32), q = (some (.int r), md wc f' A', 0, 0) ∧ MI f' A' ∧ (∀ k : Nat, k ≠ 14 → k ≠ 15 → k ≠ 16 → f' k = f k) ∧ (∀ k : Nat, k ≠ 152 → k ≠ 153 → A' k = A k) ∧ ((r = 0 ∧ True) ∨ (r = 1 ∧ DF (A' 152) (fr (A 148) (610 + 132 * x1.toInt)) 17820 ∧ (0 ≤ x1.toInt ∧ x1.toInt ≤ 1) ∧ ((-1) ≤ x2.toInt ∧ x2.toInt ≤ 2) ∧ (0 ≤ x3.toInt ∧ x3.toInt ≤ 30)))) := by
  show pmE pg X pg_tyl pg_cl (d + 6) 246 0 [.ref 147, .int x1, .int x2, .int x3] [] (md wc f A) _
  refine pe_aload_n (j := 0) (by decide +kernel) rfl ?_
  refine pe_iconstv (n := 0) (v := 0) (by decide +kernel) (by decide +kernel) ?_
  refine pe_iload_n (j := 1) (by decide +kernel) rfl ?_
  refine pi_V (j := 153) (mj := 200) (by decide +kernel) (cll_V (args := [.int x1, .int 0]) (n := 2) (by decide +kernel) rfl rfl (md_o hc) (by decide +kernel) (Nat.le_of_ble_eq_true rfl) (Nat.le_of_ble_eq_true rfl)) ?_
  show pmE pg X pg_tyl pg_cl (d + 5) 200 0 [.ref 147, .int 0, .int x1] [] (md wc f A) _
  refine pe_iload_n (j := 2) (by decide +kernel) rfl ?_
  refine pe_iconstv (n := 0) (v := 0) (by decide +kernel) (by decide +kernel) ?_
  refine pe_aload_n (j := 0) (by decide +kernel) rfl ?_
  refine pe_get (j := 7) (ci := 12) (n := 0) (by decide +kernel) (by decide +kernel) (md_o hc) rfl ?_
  refine pe_iload_n (j := 1) (by decide +kernel) rfl ?_
  refine pz_iald (by decide +kernel) (md_a148 hc) (mlen_148 hI) kz_0 (by omega) (by omega) (fun v1 ev1 => ?_)
  have rv1 : 0 ≤ v1.toInt ∧ v1.toInt ≤ 2 := MT_c0 (mt_148 hI ev1 (by omega)) (by omega)
  refine pe_iconstv (n := 1) (v := 1) (by decide +kernel) (by decide +kernel) ?_
  refine pz_sub (by decide +kernel) rfl kz_1 (by omega) (by omega) (fun z2 hz2 => ?_)
  refine pi_S (j := 119) (mj := 199) (by decide +kernel) (by decide +kernel) rfl ?_
  show pmE pg X pg_tyl pg_cl (d + 4) 199 0 [.int x1, .int 0, .int z2] [] (md wc f A) _
  refine pe_iload_n (j := 0) (by decide +kernel) rfl ?_
  refine pe_iload_n (j := 1) (by decide +kernel) rfl ?_
  have lw4 := zi_lo x1
  have uw4 := zi_hi x1
  refine pz_icmp_lt (off := 12) (t := 14) (by decide +kernel) (by decide) rfl rfl kz_0 (fun h3 => ?_) (fun h3 => ?_)
  · skip
    refine pe_iconstv (n := 0) (v := 0) (by decide +kernel) (by decide +kernel) ?_
    refine pe_iret (by decide +kernel) rfl rfl ⟨rfl, rfl, ?_⟩
    show pmE pg X pg_tyl pg_cl (d + 5) 200 13 [.ref 147, .int 0, .int x1] [.int 0] (md wc f A) _
    refine pe_iret (by decide +kernel) rfl rfl ⟨rfl, rfl, ?_⟩
    show pmE pg X pg_tyl pg_cl (d + 6) 246 6 [.ref 147, .int x1, .int x2, .int x3] [.int 0] (md wc f A) _
    refine pz_if_eq (off := 21) (t := 27) (by decide +kernel) (by decide) rfl kz_0 (fun h5 => ?_) (fun h5 => by omega)
    refine pe_iconstv (n := 0) (v := 0) (by decide +kernel) (by decide +kernel) ?_
    exact pe_iret (by decide +kernel) rfl rfl ⟨f, A, 0, rfl, hI, (fun k n14 n15 n16 => rfl), (fun k n152 n153 => rfl), Or.inl ⟨rfl, trivial⟩⟩
  · skip
    refine pe_iload_n (j := 0) (by decide +kernel) rfl ?_
    refine pe_iload_n (j := 2) (by decide +kernel) rfl ?_
    refine pz_icmp_gt (off := 7) (t := 14) (by decide +kernel) (by decide) rfl rfl hz2 (fun h6 => ?_) (fun h6 => ?_)
    · skip
      refine pe_iconstv (n := 0) (v := 0) (by decide +kernel) (by decide +kernel) ?_
      refine pe_iret (by decide +kernel) rfl rfl ⟨rfl, rfl, ?_⟩
      show pmE pg X pg_tyl pg_cl (d + 5) 200 13 [.ref 147, .int 0, .int x1] [.int 0] (md wc f A) _
      refine pe_iret (by decide +kernel) rfl rfl ⟨rfl, rfl, ?_⟩
      show pmE pg X pg_tyl pg_cl (d + 6) 246 6 [.ref 147, .int x1, .int x2, .int x3] [.int 0] (md wc f A) _
      refine pz_if_eq (off := 21) (t := 27) (by decide +kernel) (by decide) rfl kz_0 (fun h7 => ?_) (fun h7 => by omega)
      refine pe_iconstv (n := 0) (v := 0) (by decide +kernel) (by decide +kernel) ?_
      exact pe_iret (by decide +kernel) rfl rfl ⟨f, A, 0, rfl, hI, (fun k n14 n15 n16 => rfl), (fun k n152 n153 => rfl), Or.inl ⟨rfl, trivial⟩⟩
    · skip
      refine pe_iconstv (n := 1) (v := 1) (by decide +kernel) (by decide +kernel) ?_
      refine pe_goto (off := 4) (t := 15) (by decide +kernel) (by decide) rfl ?_
      refine pe_iret (by decide +kernel) rfl rfl ⟨rfl, rfl, ?_⟩
      show pmE pg X pg_tyl pg_cl (d + 5) 200 13 [.ref 147, .int 0, .int x1] [.int 1] (md wc f A) _
      refine pe_iret (by decide +kernel) rfl rfl ⟨rfl, rfl, ?_⟩
      show pmE pg X pg_tyl pg_cl (d + 6) 246 6 [.ref 147, .int x1, .int x2, .int x3] [.int 1] (md wc f A) _
      refine pz_if_eq (off := 21) (t := 27) (by decide +kernel) (by decide) rfl kz_1 (fun h8 => by omega) (fun h8 => ?_)
      refine pe_iload_n (j := 3) (by decide +kernel) rfl ?_
      have lw10 := zi_lo x3
      have uw10 := zi_hi x3
      refine pz_if_lt (off := 17) (t := 27) (by decide +kernel) (by decide) rfl rfl (fun h9 => ?_) (fun h9 => ?_)
      · skip
        refine pe_iconstv (n := 0) (v := 0) (by decide +kernel) (by decide +kernel) ?_
        exact pe_iret (by decide +kernel) rfl rfl ⟨f, A, 0, rfl, hI, (fun k n14 n15 n16 => rfl), (fun k n152 n153 => rfl), Or.inl ⟨rfl, trivial⟩⟩
      · skip
        refine pe_iload_n (j := 2) (by decide +kernel) rfl ?_
        refine pe_iconstv (n := (-1)) (v := (-1)) (by decide +kernel) (by decide +kernel) ?_
        have lw12 := zi_lo x2
        have uw12 := zi_hi x2
        refine pz_icmp_eq (off := 14) (t := 29) (by decide +kernel) (by decide) rfl rfl kz_m1 (fun h11 => ?_) (fun h11 => ?_)
        · skip
          refine pe_aload_n (j := 0) (by decide +kernel) rfl ?_
          refine pz_callV (j := 214) (mj := 229) (by decide +kernel) (cll_V (args := []) (n := 0) (by decide +kernel) rfl rfl (md_o hc) (by decide +kernel) (Nat.le_of_ble_eq_true rfl) (Nat.le_of_ble_eq_true rfl)) (NM_229 hc hI) (fun q13a q13b q13c q13d hqq13 => ?_)
          obtain ⟨f14, A15, eq13, hIq13, hGq13, hFq13, hX0q13, kq13⟩ := hqq13
          cases eq13
          refine ⟨rfl, rfl, ?_⟩
          have hr_f14_14 := mf_14 hIq13
          obtain ⟨hq16, kq13⟩ := kq13
          show pmE pg X pg_tyl pg_cl (d + 6) 246 33 [.ref 147, .int x1, .int x2, .int x3] [] (md wc f14 A15) _
          refine pe_iload_n (j := 2) (by decide +kernel) rfl ?_
          refine pe_iconstv (n := (-1)) (v := (-1)) (by decide +kernel) (by decide +kernel) ?_
          refine pz_icmp_ne (off := 15) (t := 50) (by decide +kernel) (by decide) rfl rfl kz_m1 (fun h17 => by omega) (fun h17 => ?_)
          refine pe_iload_n (j := 3) (by decide +kernel) rfl ?_
          refine pz_if_ne (off := 7) (t := 46) (by decide +kernel) (by decide) rfl rfl (fun h18 => ?_) (fun h18 => ?_)
          · skip
            refine pe_iconstv (n := 0) (v := 0) (by decide +kernel) (by decide +kernel) ?_
            refine pe_goto (off := 23) (t := 70) (by decide +kernel) (by decide) rfl ?_
            exact pe_iret (by decide +kernel) rfl rfl ⟨f14, A15, 0, rfl, hIq13, (fun k n14 n15 n16 => (hGq13 k n14 n15)), (fun k n152 n153 => (hFq13 k n152)), Or.inl ⟨rfl, trivial⟩⟩
          · skip
            refine pe_iconstv (n := 1) (v := 1) (by decide +kernel) (by decide +kernel) ?_
            refine pe_goto (off := 27) (t := 70) (by decide +kernel) (by decide) rfl ?_
            exact pe_iret (by decide +kernel) rfl rfl ⟨f14, A15, 1, rfl, hIq13, (fun k n14 n15 n16 => (hGq13 k n14 n15)), (fun k n152 n153 => (hFq13 k n152)), Or.inr (⟨rfl, (DF_zero hq16 (by decide)), (by omega)⟩)⟩
        · skip
          refine pe_aload_n (j := 0) (by decide +kernel) rfl ?_
          refine pe_iconstv (n := 1) (v := 1) (by decide +kernel) (by decide +kernel) ?_
          refine pe_iload_n (j := 2) (by decide +kernel) rfl ?_
          refine pi_V (j := 153) (mj := 200) (by decide +kernel) (cll_V (args := [.int x2, .int 1]) (n := 2) (by decide +kernel) rfl rfl (md_o hc) (by decide +kernel) (Nat.le_of_ble_eq_true rfl) (Nat.le_of_ble_eq_true rfl)) ?_
          show pmE pg X pg_tyl pg_cl (d + 5) 200 0 [.ref 147, .int 1, .int x2] [] (md wc f A) _
          refine pe_iload_n (j := 2) (by decide +kernel) rfl ?_
          refine pe_iconstv (n := 0) (v := 0) (by decide +kernel) (by decide +kernel) ?_
          refine pe_aload_n (j := 0) (by decide +kernel) rfl ?_
          refine pe_get (j := 7) (ci := 12) (n := 0) (by decide +kernel) (by decide +kernel) (md_o hc) rfl ?_
          refine pe_iload_n (j := 1) (by decide +kernel) rfl ?_
          refine pz_iald (by decide +kernel) (md_a148 hc) (mlen_148 hI) kz_1 (by omega) (by omega) (fun v19 ev19 => ?_)
          have rv19 : 0 ≤ v19.toInt ∧ v19.toInt ≤ 3 := MT_c1 (mt_148 hI ev19 (by omega)) (by omega)
          refine pe_iconstv (n := 1) (v := 1) (by decide +kernel) (by decide +kernel) ?_
          refine pz_sub (by decide +kernel) rfl kz_1 (by omega) (by omega) (fun z20 hz20 => ?_)
          refine pi_S (j := 119) (mj := 199) (by decide +kernel) (by decide +kernel) rfl ?_
          show pmE pg X pg_tyl pg_cl (d + 4) 199 0 [.int x2, .int 0, .int z20] [] (md wc f A) _
          refine pe_iload_n (j := 0) (by decide +kernel) rfl ?_
          refine pe_iload_n (j := 1) (by decide +kernel) rfl ?_
          refine pz_icmp_lt (off := 12) (t := 14) (by decide +kernel) (by decide) rfl rfl kz_0 (fun h21 => ?_) (fun h21 => ?_)
          · skip
            refine pe_iconstv (n := 0) (v := 0) (by decide +kernel) (by decide +kernel) ?_
            refine pe_iret (by decide +kernel) rfl rfl ⟨rfl, rfl, ?_⟩
            show pmE pg X pg_tyl pg_cl (d + 5) 200 13 [.ref 147, .int 1, .int x2] [.int 0] (md wc f A) _
            refine pe_iret (by decide +kernel) rfl rfl ⟨rfl, rfl, ?_⟩
            show pmE pg X pg_tyl pg_cl (d + 6) 246 24 [.ref 147, .int x1, .int x2, .int x3] [.int 0] (md wc f A) _
            refine pz_if_ne (off := 5) (t := 29) (by decide +kernel) (by decide) rfl kz_0 (fun h22 => by omega) (fun h22 => ?_)
            refine pe_iconstv (n := 0) (v := 0) (by decide +kernel) (by decide +kernel) ?_
            exact pe_iret (by decide +kernel) rfl rfl ⟨f, A, 0, rfl, hI, (fun k n14 n15 n16 => rfl), (fun k n152 n153 => rfl), Or.inl ⟨rfl, trivial⟩⟩
          · skip
            refine pe_iload_n (j := 0) (by decide +kernel) rfl ?_
            refine pe_iload_n (j := 2) (by decide +kernel) rfl ?_
            refine pz_icmp_gt (off := 7) (t := 14) (by decide +kernel) (by decide) rfl rfl hz20 (fun h23 => ?_) (fun h23 => ?_)
            · skip
              refine pe_iconstv (n := 0) (v := 0) (by decide +kernel) (by decide +kernel) ?_
              refine pe_iret (by decide +kernel) rfl rfl ⟨rfl, rfl, ?_⟩
              show pmE pg X pg_tyl pg_cl (d + 5) 200 13 [.ref 147, .int 1, .int x2] [.int 0] (md wc f A) _
              refine pe_iret (by decide +kernel) rfl rfl ⟨rfl, rfl, ?_⟩
              show pmE pg X pg_tyl pg_cl (d + 6) 246 24 [.ref 147, .int x1, .int x2, .int x3] [.int 0] (md wc f A) _
              refine pz_if_ne (off := 5) (t := 29) (by decide +kernel) (by decide) rfl kz_0 (fun h24 => by omega) (fun h24 => ?_)
              refine pe_iconstv (n := 0) (v := 0) (by decide +kernel) (by decide +kernel) ?_
              exact pe_iret (by decide +kernel) rfl rfl ⟨f, A, 0, rfl, hI, (fun k n14 n15 n16 => rfl), (fun k n152 n153 => rfl), Or.inl ⟨rfl, trivial⟩⟩
            · skip
              refine pe_iconstv (n := 1) (v := 1) (by decide +kernel) (by decide +kernel) ?_
              refine pe_goto (off := 4) (t := 15) (by decide +kernel) (by decide) rfl ?_
              refine pe_iret (by decide +kernel) rfl rfl ⟨rfl, rfl, ?_⟩
              show pmE pg X pg_tyl pg_cl (d + 5) 200 13 [.ref 147, .int 1, .int x2] [.int 1] (md wc f A) _
              refine pe_iret (by decide +kernel) rfl rfl ⟨rfl, rfl, ?_⟩
              show pmE pg X pg_tyl pg_cl (d + 6) 246 24 [.ref 147, .int x1, .int x2, .int x3] [.int 1] (md wc f A) _
              refine pz_if_ne (off := 5) (t := 29) (by decide +kernel) (by decide) rfl kz_1 (fun h25 => ?_) (fun h25 => by omega)
              refine pe_aload_n (j := 0) (by decide +kernel) rfl ?_
              refine pz_callV (j := 214) (mj := 229) (by decide +kernel) (cll_V (args := []) (n := 0) (by decide +kernel) rfl rfl (md_o hc) (by decide +kernel) (Nat.le_of_ble_eq_true rfl) (Nat.le_of_ble_eq_true rfl)) (NM_229 hc hI) (fun q26a q26b q26c q26d hqq26 => ?_)
              obtain ⟨f27, A28, eq26, hIq26, hGq26, hFq26, hX0q26, kq26⟩ := hqq26
              cases eq26
              refine ⟨rfl, rfl, ?_⟩
              have hr_f27_14 := mf_14 hIq26
              obtain ⟨hq29, kq26⟩ := kq26
              show pmE pg X pg_tyl pg_cl (d + 6) 246 33 [.ref 147, .int x1, .int x2, .int x3] [] (md wc f27 A28) _
              refine pe_iload_n (j := 2) (by decide +kernel) rfl ?_
              refine pe_iconstv (n := (-1)) (v := (-1)) (by decide +kernel) (by decide +kernel) ?_
              refine pz_icmp_ne (off := 15) (t := 50) (by decide +kernel) (by decide) rfl rfl kz_m1 (fun h30 => ?_) (fun h30 => by omega)
              refine pe_aload_n (j := 0) (by decide +kernel) rfl ?_
              refine pe_iconstv (n := 0) (v := 0) (by decide +kernel) (by decide +kernel) ?_
              refine pe_iload_n (j := 1) (by decide +kernel) rfl ?_
              refine pi_S (j := 163) (mj := 217) (by decide +kernel) (by decide +kernel) rfl ?_
              show pmE pg X pg_tyl pg_cl (d + 5) 217 0 [.int 0, .int x1] [] (md wc f27 A28) _
              refine pe_iload_n (j := 0) (by decide +kernel) rfl ?_
              refine pz_if_ne (off := 15) (t := 16) (by decide +kernel) (by decide) rfl kz_0 (fun h31 => by omega) (fun h31 => ?_)
              refine pe_sipushv (n := 610) (v := 610) (by decide +kernel) (by decide +kernel) ?_
              refine pe_sipushv (n := 132) (v := 132) (by decide +kernel) (by decide +kernel) ?_
              refine pe_iload_n (j := 1) (by decide +kernel) rfl ?_
              refine pz_mul (by decide +kernel) kz_132 rfl (by omega) (by omega) (fun z32 hz32 => ?_)
              refine pz_add (by decide +kernel) kz_610 hz32 (by omega) (by omega) (fun z33 hz33 => ?_)
              clear hz32
              refine pe_goto (off := 12) (t := 25) (by decide +kernel) (by decide) rfl ?_
              refine pe_iret (by decide +kernel) rfl rfl ⟨rfl, rfl, ?_⟩
              show pmE pg X pg_tyl pg_cl (d + 6) 246 56 [.ref 147, .int x1, .int x2, .int x3] [.int z33, .ref 147] (md wc f27 A28) _
              refine pe_iload_n (j := 2) (by decide +kernel) rfl ?_
              refine pe_iload_n (j := 3) (by decide +kernel) rfl ?_
              refine pz_callV (j := 226) (mj := 228) (by decide +kernel) (cll_V (args := [.int x3, .int x2, .int z33]) (n := 3) (by decide +kernel) rfl rfl (md_o hc) (by decide +kernel) (Nat.le_of_ble_eq_true rfl) (Nat.le_of_ble_eq_true rfl)) (NM_228 hc hIq26 (by omega) (by omega)) (fun q34a q34b q34c q34d hqq34 => ?_)
              obtain ⟨f35, A36, rq34, eq34, hIq34, hGq34, hFq34, kq34⟩ := hqq34
              cases eq34
              refine ⟨rfl, rfl, ?_⟩
              obtain ⟨kfq34, kq34⟩ := kq34
              obtain ⟨hp37, kq34⟩ := kq34
              show pmE pg X pg_tyl pg_cl (d + 6) 246 61 [.ref 147, .int x1, .int x2, .int x3] [.int rq34] (md wc f35 A36) _
              refine pe_iload_n (j := 3) (by decide +kernel) rfl ?_
              refine pz_icmp_ne (off := 7) (t := 69) (by decide +kernel) (by decide) rfl rfl rfl (fun h38 => ?_) (fun h38 => ?_)
              · skip
                refine pe_iconstv (n := 0) (v := 0) (by decide +kernel) (by decide +kernel) ?_
                exact pe_iret (by decide +kernel) rfl rfl ⟨f35, A36, 0, rfl, hIq34, (fun k n14 n15 n16 => ((hGq34 k n14 n15 n16)).trans ((hGq26 k n14 n15))), (fun k n152 n153 => ((hFq34 k n152 n153)).trans ((hFq26 k n152))), Or.inl ⟨rfl, trivial⟩⟩
              · skip
                refine pe_iconstv (n := 1) (v := 1) (by decide +kernel) (by decide +kernel) ?_
                refine pe_goto (off := 4) (t := 70) (by decide +kernel) (by decide) rfl ?_
                exact pe_iret (by decide +kernel) rfl rfl ⟨f35, A36, 1, rfl, hIq34, (fun k n14 n15 n16 => ((hGq34 k n14 n15 n16)).trans ((hGq26 k n14 n15))), (fun k n152 n153 => ((hFq34 k n152 n153)).trans ((hFq26 k n152))), Or.inr (⟨rfl, (by have h := hp37; rw [show A28 148 = A 148 from (hFq26 148 (by decide)), show (z33).toInt = 610 + 132 * x1.toInt from (by omega)] at h; exact h), (by omega)⟩)⟩
