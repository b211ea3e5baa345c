set_option maxRecDepth 100000 in
set_option maxHeartbeats 8000000 in
theorem MM_212 {X : pm_X} {d : Nat} {wc : pm_W} {f : Nat → Int32} {A : Nat → List Int32} {x1 : Int32} (hc : wc.length = 147) (hI : MI f A) : pmE pg X pg_tyl pg_cl (d + 4) 212 0 (pm_ent (pm_max pg 212) [.ref 147, .int x1]) [] (md wc f A) (fun q => ∃ (f' : Nat → Int32) (A' : Nat → List Int32) (r : Int32), q = (some (.int r), md wc f' A', 0, 0) ∧ MI f' A' ∧ (∀ k : Nat, k ≠ 3 → k ≠ 4 → k ≠ 5 → k ≠ 6 → k ≠ 7 → k ≠ 8 → k ≠ 9 → f' k = f k) ∧ (∀ k : Nat, k ≠ 148 → A' k = A k) ∧ ((True ∧ True))) := by
  show pmE pg X pg_tyl pg_cl (d + 4) 212 0 [.ref 147, .int x1, pm_dead] [] (md wc f A) _
  refine pe_aload_n (j := 0) (by decide +kernel) rfl ?_
  refine pe_get (j := 93) (ci := 12) (n := 5) (by decide +kernel) (by decide +kernel) (md_o hc) rfl ?_
  have hr_5_f := hI.1 5
  simp only [MF] at hr_5_f
  refine pe_iconstv (n := 1) (v := 1) (by decide +kernel) (by decide +kernel) ?_
  refine pz_icmp_ne (off := 20) (t := 25) (by decide +kernel) (by decide) rfl rfl kz_1 (fun h1 => ?_) (fun h1 => ?_)
  · skip
    refine pe_aload_n (j := 0) (by decide +kernel) rfl ?_
    refine pe_iconstv (n := 0) (v := 0) (by decide +kernel) (by decide +kernel) ?_
    refine pe_bipushv (n := 8) (v := 8) (by decide +kernel) (by decide +kernel) ?_
    refine pz_callV (j := 130) (mj := 210) (by decide +kernel) (cll_V (args := [.int 8, .int 0]) (n := 2) (by decide +kernel) rfl rfl (md_o hc) (by decide +kernel) (Nat.le_of_ble_eq_true rfl) (Nat.le_of_ble_eq_true rfl)) (MM_210 hc hI) (fun q2a q2b q2c q2d hqq2 => ?_)
    obtain ⟨f3, A4, rq2, eq2, hIq2, hGq2, hFq2, kq2⟩ := hqq2
    cases eq2
    refine ⟨rfl, rfl, ?_⟩
    show pmE pg X pg_tyl pg_cl (d + 4) 212 32 [.ref 147, .int x1, pm_dead] [.int rq2] (md wc f3 A4) _
    refine pe_istore_n (j := 2) (ls' := [.ref 147, .int x1, .int rq2]) (by decide +kernel) (Nat.le_of_ble_eq_true rfl) rfl ?_
    refine pe_aload_n (j := 0) (by decide +kernel) rfl ?_
    refine pe_iload_n (j := 2) (by decide +kernel) rfl ?_
    refine pe_aload_n (j := 0) (by decide +kernel) rfl ?_
    refine pe_get (j := 134) (ci := 12) (n := 9) (by decide +kernel) (by decide +kernel) (md_o hc) rfl ?_
    refine pe_top (v := (f 9)) ((hGq2 9 (by decide) (by decide) (by decide) (by decide) (by decide) (by decide))) ?_
    have lw6 := zi_lo rq2
    have uw6 := zi_hi rq2
    have lw7 := zi_lo (f 9)
    have uw7 := zi_hi (f 9)
    refine pz_icmp_le (off := 7) (t := 46) (by decide +kernel) (by decide) rfl rfl rfl (fun h5 => ?_) (fun h5 => ?_)
    · skip
      refine pe_aload_n (j := 0) (by decide +kernel) rfl ?_
      refine pe_get (j := 134) (ci := 12) (n := 9) (by decide +kernel) (by decide +kernel) (md_o hc) rfl ?_
      refine pe_top (v := (f 9)) ((hGq2 9 (by decide) (by decide) (by decide) (by decide) (by decide) (by decide))) ?_
      refine mz_put9 (jj := 134) (by decide +kernel) (by decide +kernel) hc hIq2 (fun f8 ef8 hIf8 => ?_)
      refine pe_iload_n (j := 2) (by decide +kernel) rfl ?_
      exact pe_iret (by decide +kernel) rfl rfl ⟨f8, A4, rq2, rfl, hIf8, (fun k n3 n4 n5 n6 n7 n8 n9 => (upf_fr ef8 n9).trans ((hGq2 k n3 n4 n5 n6 n7 n8))), (fun k n148 => (hFq2 k n148)), ⟨trivial, trivial⟩⟩
    · skip
      refine pe_iload_n (j := 2) (by decide +kernel) rfl ?_
      refine pe_goto (off := 7) (t := 50) (by decide +kernel) (by decide) rfl ?_
      refine mz_put9 (jj := 134) (by decide +kernel) (by decide +kernel) hc hIq2 (fun f9 ef9 hIf9 => ?_)
      refine pe_iload_n (j := 2) (by decide +kernel) rfl ?_
      exact pe_iret (by decide +kernel) rfl rfl ⟨f9, A4, rq2, rfl, hIf9, (fun k n3 n4 n5 n6 n7 n8 n9 => (upf_fr ef9 n9).trans ((hGq2 k n3 n4 n5 n6 n7 n8))), (fun k n148 => (hFq2 k n148)), ⟨trivial, trivial⟩⟩
  · skip
    refine pe_aload_n (j := 0) (by decide +kernel) rfl ?_
    refine pe_get (j := 109) (ci := 12) (n := 6) (by decide +kernel) (by decide +kernel) (md_o hc) rfl ?_
    refine pe_iload_n (j := 1) (by decide +kernel) rfl ?_
    have lw11 := zi_lo (f 6)
    have uw11 := zi_hi (f 6)
    have lw12 := zi_lo x1
    have uw12 := zi_hi x1
    refine pz_icmp_ne (off := 12) (t := 25) (by decide +kernel) (by decide) rfl rfl rfl (fun h10 => ?_) (fun h10 => ?_)
    · skip
      refine pe_aload_n (j := 0) (by decide +kernel) rfl ?_
      refine pe_iconstv (n := 0) (v := 0) (by decide +kernel) (by decide +kernel) ?_
      refine pe_bipushv (n := 8) (v := 8) (by decide +kernel) (by decide +kernel) ?_
      refine pz_callV (j := 130) (mj := 210) (by decide +kernel) (cll_V (args := [.int 8, .int 0]) (n := 2) (by decide +kernel) rfl rfl (md_o hc) (by decide +kernel) (Nat.le_of_ble_eq_true rfl) (Nat.le_of_ble_eq_true rfl)) (MM_210 hc hI) (fun q13a q13b q13c q13d hqq13 => ?_)
      obtain ⟨f14, A15, rq13, eq13, hIq13, hGq13, hFq13, kq13⟩ := hqq13
      cases eq13
      refine ⟨rfl, rfl, ?_⟩
      show pmE pg X pg_tyl pg_cl (d + 4) 212 32 [.ref 147, .int x1, pm_dead] [.int rq13] (md wc f14 A15) _
      refine pe_istore_n (j := 2) (ls' := [.ref 147, .int x1, .int rq13]) (by decide +kernel) (Nat.le_of_ble_eq_true rfl) rfl ?_
      refine pe_aload_n (j := 0) (by decide +kernel) rfl ?_
      refine pe_iload_n (j := 2) (by decide +kernel) rfl ?_
      refine pe_aload_n (j := 0) (by decide +kernel) rfl ?_
      refine pe_get (j := 134) (ci := 12) (n := 9) (by decide +kernel) (by decide +kernel) (md_o hc) rfl ?_
      refine pe_top (v := (f 9)) ((hGq13 9 (by decide) (by decide) (by decide) (by decide) (by decide) (by decide))) ?_
      have lw17 := zi_lo rq13
      have uw17 := zi_hi rq13
      have lw18 := zi_lo (f 9)
      have uw18 := zi_hi (f 9)
      refine pz_icmp_le (off := 7) (t := 46) (by decide +kernel) (by decide) rfl rfl rfl (fun h16 => ?_) (fun h16 => ?_)
      · skip
        refine pe_aload_n (j := 0) (by decide +kernel) rfl ?_
        refine pe_get (j := 134) (ci := 12) (n := 9) (by decide +kernel) (by decide +kernel) (md_o hc) rfl ?_
        refine pe_top (v := (f 9)) ((hGq13 9 (by decide) (by decide) (by decide) (by decide) (by decide) (by decide))) ?_
        refine mz_put9 (jj := 134) (by decide +kernel) (by decide +kernel) hc hIq13 (fun f19 ef19 hIf19 => ?_)
        refine pe_iload_n (j := 2) (by decide +kernel) rfl ?_
        exact pe_iret (by decide +kernel) rfl rfl ⟨f19, A15, rq13, rfl, hIf19, (fun k n3 n4 n5 n6 n7 n8 n9 => (upf_fr ef19 n9).trans ((hGq13 k n3 n4 n5 n6 n7 n8))), (fun k n148 => (hFq13 k n148)), ⟨trivial, trivial⟩⟩
      · skip
        refine pe_iload_n (j := 2) (by decide +kernel) rfl ?_
        refine pe_goto (off := 7) (t := 50) (by decide +kernel) (by decide) rfl ?_
        refine mz_put9 (jj := 134) (by decide +kernel) (by decide +kernel) hc hIq13 (fun f20 ef20 hIf20 => ?_)
        refine pe_iload_n (j := 2) (by decide +kernel) rfl ?_
        exact pe_iret (by decide +kernel) rfl rfl ⟨f20, A15, rq13, rfl, hIf20, (fun k n3 n4 n5 n6 n7 n8 n9 => (upf_fr ef20 n9).trans ((hGq13 k n3 n4 n5 n6 n7 n8))), (fun k n148 => (hFq13 k n148)), ⟨trivial, trivial⟩⟩
    · skip
      refine pe_aload_n (j := 0) (by decide +kernel) rfl ?_
      refine pe_iconstv (n := 2) (v := 2) (by decide +kernel) (by decide +kernel) ?_
      refine pe_aload_n (j := 0) (by decide +kernel) rfl ?_
      refine pe_get (j := 90) (ci := 12) (n := 4) (by decide +kernel) (by decide +kernel) (md_o hc) rfl ?_
      refine pi_V (j := 123) (mj := 211) (by decide +kernel) (cll_V (args := [.int (f 4), .int 2]) (n := 2) (by decide +kernel) rfl rfl (md_o hc) (by decide +kernel) (Nat.le_of_ble_eq_true rfl) (Nat.le_of_ble_eq_true rfl)) ?_
      show pmE pg X pg_tyl pg_cl (d + 3) 211 0 [.ref 147, .int 2, .int (f 4)] [] (md wc f A) _
      refine pe_aload_n (j := 0) (by decide +kernel) rfl ?_
      refine pe_get (j := 112) (ci := 12) (n := 8) (by decide +kernel) (by decide +kernel) (md_o hc) rfl ?_
      have hr_8_f := hI.1 8
      simp only [MF] at hr_8_f
      refine pz_if_ne (off := 42) (t := 46) (by decide +kernel) (by decide) rfl rfl (fun h21 => ?_) (fun h21 => ?_)
      · skip
        refine pe_vret (by decide +kernel) rfl ⟨rfl, rfl, ?_⟩
        show pmE pg X pg_tyl pg_cl (d + 4) 212 25 [.ref 147, .int x1, pm_dead] [] (md wc f A) _
        refine pe_aload_n (j := 0) (by decide +kernel) rfl ?_
        refine pe_iconstv (n := 0) (v := 0) (by decide +kernel) (by decide +kernel) ?_
        refine pe_bipushv (n := 8) (v := 8) (by decide +kernel) (by decide +kernel) ?_
        refine pz_callV (j := 130) (mj := 210) (by decide +kernel) (cll_V (args := [.int 8, .int 0]) (n := 2) (by decide +kernel) rfl rfl (md_o hc) (by decide +kernel) (Nat.le_of_ble_eq_true rfl) (Nat.le_of_ble_eq_true rfl)) (MM_210 hc hI) (fun q22a q22b q22c q22d hqq22 => ?_)
        obtain ⟨f23, A24, rq22, eq22, hIq22, hGq22, hFq22, kq22⟩ := hqq22
        cases eq22
        refine ⟨rfl, rfl, ?_⟩
        show pmE pg X pg_tyl pg_cl (d + 4) 212 32 [.ref 147, .int x1, pm_dead] [.int rq22] (md wc f23 A24) _
        refine pe_istore_n (j := 2) (ls' := [.ref 147, .int x1, .int rq22]) (by decide +kernel) (Nat.le_of_ble_eq_true rfl) rfl ?_
        refine pe_aload_n (j := 0) (by decide +kernel) rfl ?_
        refine pe_iload_n (j := 2) (by decide +kernel) rfl ?_
        refine pe_aload_n (j := 0) (by decide +kernel) rfl ?_
        refine pe_get (j := 134) (ci := 12) (n := 9) (by decide +kernel) (by decide +kernel) (md_o hc) rfl ?_
        refine pe_top (v := (f 9)) ((hGq22 9 (by decide) (by decide) (by decide) (by decide) (by decide) (by decide))) ?_
        have lw26 := zi_lo rq22
        have uw26 := zi_hi rq22
        have lw27 := zi_lo (f 9)
        have uw27 := zi_hi (f 9)
        refine pz_icmp_le (off := 7) (t := 46) (by decide +kernel) (by decide) rfl rfl rfl (fun h25 => ?_) (fun h25 => ?_)
        · skip
          refine pe_aload_n (j := 0) (by decide +kernel) rfl ?_
          refine pe_get (j := 134) (ci := 12) (n := 9) (by decide +kernel) (by decide +kernel) (md_o hc) rfl ?_
          refine pe_top (v := (f 9)) ((hGq22 9 (by decide) (by decide) (by decide) (by decide) (by decide) (by decide))) ?_
          refine mz_put9 (jj := 134) (by decide +kernel) (by decide +kernel) hc hIq22 (fun f28 ef28 hIf28 => ?_)
          refine pe_iload_n (j := 2) (by decide +kernel) rfl ?_
          exact pe_iret (by decide +kernel) rfl rfl ⟨f28, A24, rq22, rfl, hIf28, (fun k n3 n4 n5 n6 n7 n8 n9 => (upf_fr ef28 n9).trans ((hGq22 k n3 n4 n5 n6 n7 n8))), (fun k n148 => (hFq22 k n148)), ⟨trivial, trivial⟩⟩
        · skip
          refine pe_iload_n (j := 2) (by decide +kernel) rfl ?_
          refine pe_goto (off := 7) (t := 50) (by decide +kernel) (by decide) rfl ?_
          refine mz_put9 (jj := 134) (by decide +kernel) (by decide +kernel) hc hIq22 (fun f29 ef29 hIf29 => ?_)
          refine pe_iload_n (j := 2) (by decide +kernel) rfl ?_
          exact pe_iret (by decide +kernel) rfl rfl ⟨f29, A24, rq22, rfl, hIf29, (fun k n3 n4 n5 n6 n7 n8 n9 => (upf_fr ef29 n9).trans ((hGq22 k n3 n4 n5 n6 n7 n8))), (fun k n148 => (hFq22 k n148)), ⟨trivial, trivial⟩⟩
      · skip
        refine pe_aload_n (j := 0) (by decide +kernel) rfl ?_
        refine pe_get (j := 7) (ci := 12) (n := 0) (by decide +kernel) (by decide +kernel) (md_o hc) rfl ?_
        refine pe_iconstv (n := 3) (v := 3) (by decide +kernel) (by decide +kernel) ?_
        refine mz_ld148 (by decide +kernel) hc hI kz_3 (by omega) (by omega) (fun v30 ev30 pv30 => ?_)
        clear pv30
        have lw32 := zi_lo v30
        have uw32 := zi_hi v30
        refine pz_if_eq (off := 34) (t := 47) (by decide +kernel) (by decide) rfl rfl (fun h31 => ?_) (fun h31 => ?_)
        · skip
          refine pe_aload_n (j := 0) (by decide +kernel) rfl ?_
          refine pe_get (j := 7) (ci := 12) (n := 0) (by decide +kernel) (by decide +kernel) (md_o hc) rfl ?_
          refine pe_iconstv (n := 3) (v := 3) (by decide +kernel) (by decide +kernel) ?_
          refine pe_iload_n (j := 1) (by decide +kernel) rfl ?_
          refine mz_st148 (by decide +kernel) hc hI kz_3 (by omega) (by omega) (by rw [kz_2]; simp only [MT]; omega) (fun A33 eA33 hIA33 => ?_)
          refine pe_aload_n (j := 0) (by decide +kernel) rfl ?_
          refine pe_get (j := 7) (ci := 12) (n := 0) (by decide +kernel) (by decide +kernel) (md_o hc) rfl ?_
          refine pe_iconstv (n := 4) (v := 4) (by decide +kernel) (by decide +kernel) ?_
          refine pe_iload_n (j := 2) (by decide +kernel) rfl ?_
          refine mz_st148 (by decide +kernel) hc hIA33 kz_4 (by omega) (by omega) (by simp only [MT]; omega) (fun A34 eA34 hIA34 => ?_)
          refine pe_vret (by decide +kernel) rfl ⟨rfl, rfl, ?_⟩
          show pmE pg X pg_tyl pg_cl (d + 4) 212 25 [.ref 147, .int x1, pm_dead] [] (md wc f A34) _
          refine pe_aload_n (j := 0) (by decide +kernel) rfl ?_
          refine pe_iconstv (n := 0) (v := 0) (by decide +kernel) (by decide +kernel) ?_
          refine pe_bipushv (n := 8) (v := 8) (by decide +kernel) (by decide +kernel) ?_
          refine pz_callV (j := 130) (mj := 210) (by decide +kernel) (cll_V (args := [.int 8, .int 0]) (n := 2) (by decide +kernel) rfl rfl (md_o hc) (by decide +kernel) (Nat.le_of_ble_eq_true rfl) (Nat.le_of_ble_eq_true rfl)) (MM_210 hc hIA34) (fun q35a q35b q35c q35d hqq35 => ?_)
          obtain ⟨f36, A37, rq35, eq35, hIq35, hGq35, hFq35, kq35⟩ := hqq35
          cases eq35
          refine ⟨rfl, rfl, ?_⟩
          show pmE pg X pg_tyl pg_cl (d + 4) 212 32 [.ref 147, .int x1, pm_dead] [.int rq35] (md wc f36 A37) _
          refine pe_istore_n (j := 2) (ls' := [.ref 147, .int x1, .int rq35]) (by decide +kernel) (Nat.le_of_ble_eq_true rfl) rfl ?_
          refine pe_aload_n (j := 0) (by decide +kernel) rfl ?_
          refine pe_iload_n (j := 2) (by decide +kernel) rfl ?_
          refine pe_aload_n (j := 0) (by decide +kernel) rfl ?_
          refine pe_get (j := 134) (ci := 12) (n := 9) (by decide +kernel) (by decide +kernel) (md_o hc) rfl ?_
          refine pe_top (v := (f 9)) ((hGq35 9 (by decide) (by decide) (by decide) (by decide) (by decide) (by decide))) ?_
          have lw39 := zi_lo rq35
          have uw39 := zi_hi rq35
          have lw40 := zi_lo (f 9)
          have uw40 := zi_hi (f 9)
          refine pz_icmp_le (off := 7) (t := 46) (by decide +kernel) (by decide) rfl rfl rfl (fun h38 => ?_) (fun h38 => ?_)
          · skip
            refine pe_aload_n (j := 0) (by decide +kernel) rfl ?_
            refine pe_get (j := 134) (ci := 12) (n := 9) (by decide +kernel) (by decide +kernel) (md_o hc) rfl ?_
            refine pe_top (v := (f 9)) ((hGq35 9 (by decide) (by decide) (by decide) (by decide) (by decide) (by decide))) ?_
            refine mz_put9 (jj := 134) (by decide +kernel) (by decide +kernel) hc hIq35 (fun f41 ef41 hIf41 => ?_)
            refine pe_iload_n (j := 2) (by decide +kernel) rfl ?_
            exact pe_iret (by decide +kernel) rfl rfl ⟨f41, A37, rq35, rfl, hIf41, (fun k n3 n4 n5 n6 n7 n8 n9 => (upf_fr ef41 n9).trans ((hGq35 k n3 n4 n5 n6 n7 n8))), (fun k n148 => ((hFq35 k n148)).trans ((upa_fr eA34 n148).trans (upa_fr eA33 n148))), ⟨trivial, trivial⟩⟩
          · skip
            refine pe_iload_n (j := 2) (by decide +kernel) rfl ?_
            refine pe_goto (off := 7) (t := 50) (by decide +kernel) (by decide) rfl ?_
            refine mz_put9 (jj := 134) (by decide +kernel) (by decide +kernel) hc hIq35 (fun f42 ef42 hIf42 => ?_)
            refine pe_iload_n (j := 2) (by decide +kernel) rfl ?_
            exact pe_iret (by decide +kernel) rfl rfl ⟨f42, A37, rq35, rfl, hIf42, (fun k n3 n4 n5 n6 n7 n8 n9 => (upf_fr ef42 n9).trans ((hGq35 k n3 n4 n5 n6 n7 n8))), (fun k n148 => ((hFq35 k n148)).trans ((upa_fr eA34 n148).trans (upa_fr eA33 n148))), ⟨trivial, trivial⟩⟩
        · skip
          refine pe_aload_n (j := 0) (by decide +kernel) rfl ?_
          refine pe_get (j := 7) (ci := 12) (n := 0) (by decide +kernel) (by decide +kernel) (md_o hc) rfl ?_
          refine pe_iconstv (n := 4) (v := 4) (by decide +kernel) (by decide +kernel) ?_
          refine mz_ld148 (by decide +kernel) hc hI kz_4 (by omega) (by omega) (fun v43 ev43 pv43 => ?_)
          clear pv43
          refine pe_iload_n (j := 2) (by decide +kernel) rfl ?_
          have lw45 := zi_lo v43
          have uw45 := zi_hi v43
          have lw46 := zi_lo (f 4)
          have uw46 := zi_hi (f 4)
          refine pz_icmp_lt (off := 23) (t := 46) (by decide +kernel) (by decide) rfl rfl rfl (fun h44 => ?_) (fun h44 => ?_)
          · skip
            refine pe_vret (by decide +kernel) rfl ⟨rfl, rfl, ?_⟩
            show pmE pg X pg_tyl pg_cl (d + 4) 212 25 [.ref 147, .int x1, pm_dead] [] (md wc f A) _
            refine pe_aload_n (j := 0) (by decide +kernel) rfl ?_
            refine pe_iconstv (n := 0) (v := 0) (by decide +kernel) (by decide +kernel) ?_
            refine pe_bipushv (n := 8) (v := 8) (by decide +kernel) (by decide +kernel) ?_
            refine pz_callV (j := 130) (mj := 210) (by decide +kernel) (cll_V (args := [.int 8, .int 0]) (n := 2) (by decide +kernel) rfl rfl (md_o hc) (by decide +kernel) (Nat.le_of_ble_eq_true rfl) (Nat.le_of_ble_eq_true rfl)) (MM_210 hc hI) (fun q47a q47b q47c q47d hqq47 => ?_)
            obtain ⟨f48, A49, rq47, eq47, hIq47, hGq47, hFq47, kq47⟩ := hqq47
            cases eq47
            refine ⟨rfl, rfl, ?_⟩
            show pmE pg X pg_tyl pg_cl (d + 4) 212 32 [.ref 147, .int x1, pm_dead] [.int rq47] (md wc f48 A49) _
            refine pe_istore_n (j := 2) (ls' := [.ref 147, .int x1, .int rq47]) (by decide +kernel) (Nat.le_of_ble_eq_true rfl) rfl ?_
            refine pe_aload_n (j := 0) (by decide +kernel) rfl ?_
            refine pe_iload_n (j := 2) (by decide +kernel) rfl ?_
            refine pe_aload_n (j := 0) (by decide +kernel) rfl ?_
            refine pe_get (j := 134) (ci := 12) (n := 9) (by decide +kernel) (by decide +kernel) (md_o hc) rfl ?_
            refine pe_top (v := (f 9)) ((hGq47 9 (by decide) (by decide) (by decide) (by decide) (by decide) (by decide))) ?_
            have lw51 := zi_lo rq47
            have uw51 := zi_hi rq47
            have lw52 := zi_lo (f 9)
            have uw52 := zi_hi (f 9)
            refine pz_icmp_le (off := 7) (t := 46) (by decide +kernel) (by decide) rfl rfl rfl (fun h50 => ?_) (fun h50 => ?_)
            · skip
              refine pe_aload_n (j := 0) (by decide +kernel) rfl ?_
              refine pe_get (j := 134) (ci := 12) (n := 9) (by decide +kernel) (by decide +kernel) (md_o hc) rfl ?_
              refine pe_top (v := (f 9)) ((hGq47 9 (by decide) (by decide) (by decide) (by decide) (by decide) (by decide))) ?_
              refine mz_put9 (jj := 134) (by decide +kernel) (by decide +kernel) hc hIq47 (fun f53 ef53 hIf53 => ?_)
              refine pe_iload_n (j := 2) (by decide +kernel) rfl ?_
              exact pe_iret (by decide +kernel) rfl rfl ⟨f53, A49, rq47, rfl, hIf53, (fun k n3 n4 n5 n6 n7 n8 n9 => (upf_fr ef53 n9).trans ((hGq47 k n3 n4 n5 n6 n7 n8))), (fun k n148 => (hFq47 k n148)), ⟨trivial, trivial⟩⟩
            · skip
              refine pe_iload_n (j := 2) (by decide +kernel) rfl ?_
              refine pe_goto (off := 7) (t := 50) (by decide +kernel) (by decide) rfl ?_
              refine mz_put9 (jj := 134) (by decide +kernel) (by decide +kernel) hc hIq47 (fun f54 ef54 hIf54 => ?_)
              refine pe_iload_n (j := 2) (by decide +kernel) rfl ?_
              exact pe_iret (by decide +kernel) rfl rfl ⟨f54, A49, rq47, rfl, hIf54, (fun k n3 n4 n5 n6 n7 n8 n9 => (upf_fr ef54 n9).trans ((hGq47 k n3 n4 n5 n6 n7 n8))), (fun k n148 => (hFq47 k n148)), ⟨trivial, trivial⟩⟩
          · skip
            refine pe_aload_n (j := 0) (by decide +kernel) rfl ?_
            refine pe_get (j := 7) (ci := 12) (n := 0) (by decide +kernel) (by decide +kernel) (md_o hc) rfl ?_
            refine pe_iconstv (n := 4) (v := 4) (by decide +kernel) (by decide +kernel) ?_
            refine mz_ld148 (by decide +kernel) hc hI kz_4 (by omega) (by omega) (fun v55 ev55 pv55 => ?_)
            rw [ev55.trans ev43.symm]
            clear pv55 ev55 v55
            refine pe_iload_n (j := 2) (by decide +kernel) rfl ?_
            refine pz_icmp_ne (off := 14) (t := 47) (by decide +kernel) (by decide) rfl rfl rfl (fun h56 => ?_) (fun h56 => ?_)
            · skip
              refine pe_aload_n (j := 0) (by decide +kernel) rfl ?_
              refine pe_get (j := 7) (ci := 12) (n := 0) (by decide +kernel) (by decide +kernel) (md_o hc) rfl ?_
              refine pe_iconstv (n := 3) (v := 3) (by decide +kernel) (by decide +kernel) ?_
              refine pe_iload_n (j := 1) (by decide +kernel) rfl ?_
              refine mz_st148 (by decide +kernel) hc hI kz_3 (by omega) (by omega) (by rw [kz_2]; simp only [MT]; omega) (fun A57 eA57 hIA57 => ?_)
              refine pe_aload_n (j := 0) (by decide +kernel) rfl ?_
              refine pe_get (j := 7) (ci := 12) (n := 0) (by decide +kernel) (by decide +kernel) (md_o hc) rfl ?_
              refine pe_iconstv (n := 4) (v := 4) (by decide +kernel) (by decide +kernel) ?_
              refine pe_iload_n (j := 2) (by decide +kernel) rfl ?_
              refine mz_st148 (by decide +kernel) hc hIA57 kz_4 (by omega) (by omega) (by simp only [MT]; omega) (fun A58 eA58 hIA58 => ?_)
              refine pe_vret (by decide +kernel) rfl ⟨rfl, rfl, ?_⟩
              show pmE pg X pg_tyl pg_cl (d + 4) 212 25 [.ref 147, .int x1, pm_dead] [] (md wc f A58) _
              refine pe_aload_n (j := 0) (by decide +kernel) rfl ?_
              refine pe_iconstv (n := 0) (v := 0) (by decide +kernel) (by decide +kernel) ?_
              refine pe_bipushv (n := 8) (v := 8) (by decide +kernel) (by decide +kernel) ?_
              refine pz_callV (j := 130) (mj := 210) (by decide +kernel) (cll_V (args := [.int 8, .int 0]) (n := 2) (by decide +kernel) rfl rfl (md_o hc) (by decide +kernel) (Nat.le_of_ble_eq_true rfl) (Nat.le_of_ble_eq_true rfl)) (MM_210 hc hIA58) (fun q59a q59b q59c q59d hqq59 => ?_)
              obtain ⟨f60, A61, rq59, eq59, hIq59, hGq59, hFq59, kq59⟩ := hqq59
              cases eq59
              refine ⟨rfl, rfl, ?_⟩
              show pmE pg X pg_tyl pg_cl (d + 4) 212 32 [.ref 147, .int x1, pm_dead] [.int rq59] (md wc f60 A61) _
              refine pe_istore_n (j := 2) (ls' := [.ref 147, .int x1, .int rq59]) (by decide +kernel) (Nat.le_of_ble_eq_true rfl) rfl ?_
              refine pe_aload_n (j := 0) (by decide +kernel) rfl ?_
              refine pe_iload_n (j := 2) (by decide +kernel) rfl ?_
              refine pe_aload_n (j := 0) (by decide +kernel) rfl ?_
              refine pe_get (j := 134) (ci := 12) (n := 9) (by decide +kernel) (by decide +kernel) (md_o hc) rfl ?_
              refine pe_top (v := (f 9)) ((hGq59 9 (by decide) (by decide) (by decide) (by decide) (by decide) (by decide))) ?_
              have lw63 := zi_lo rq59
              have uw63 := zi_hi rq59
              have lw64 := zi_lo (f 9)
              have uw64 := zi_hi (f 9)
              refine pz_icmp_le (off := 7) (t := 46) (by decide +kernel) (by decide) rfl rfl rfl (fun h62 => ?_) (fun h62 => ?_)
              · skip
                refine pe_aload_n (j := 0) (by decide +kernel) rfl ?_
                refine pe_get (j := 134) (ci := 12) (n := 9) (by decide +kernel) (by decide +kernel) (md_o hc) rfl ?_
                refine pe_top (v := (f 9)) ((hGq59 9 (by decide) (by decide) (by decide) (by decide) (by decide) (by decide))) ?_
                refine mz_put9 (jj := 134) (by decide +kernel) (by decide +kernel) hc hIq59 (fun f65 ef65 hIf65 => ?_)
                refine pe_iload_n (j := 2) (by decide +kernel) rfl ?_
                exact pe_iret (by decide +kernel) rfl rfl ⟨f65, A61, rq59, rfl, hIf65, (fun k n3 n4 n5 n6 n7 n8 n9 => (upf_fr ef65 n9).trans ((hGq59 k n3 n4 n5 n6 n7 n8))), (fun k n148 => ((hFq59 k n148)).trans ((upa_fr eA58 n148).trans (upa_fr eA57 n148))), ⟨trivial, trivial⟩⟩
              · skip
                refine pe_iload_n (j := 2) (by decide +kernel) rfl ?_
                refine pe_goto (off := 7) (t := 50) (by decide +kernel) (by decide) rfl ?_
                refine mz_put9 (jj := 134) (by decide +kernel) (by decide +kernel) hc hIq59 (fun f66 ef66 hIf66 => ?_)
                refine pe_iload_n (j := 2) (by decide +kernel) rfl ?_
                exact pe_iret (by decide +kernel) rfl rfl ⟨f66, A61, rq59, rfl, hIf66, (fun k n3 n4 n5 n6 n7 n8 n9 => (upf_fr ef66 n9).trans ((hGq59 k n3 n4 n5 n6 n7 n8))), (fun k n148 => ((hFq59 k n148)).trans ((upa_fr eA58 n148).trans (upa_fr eA57 n148))), ⟨trivial, trivial⟩⟩
            · skip
              refine pe_aload_n (j := 0) (by decide +kernel) rfl ?_
              refine pe_get (j := 7) (ci := 12) (n := 0) (by decide +kernel) (by decide +kernel) (md_o hc) rfl ?_
              refine pe_iconstv (n := 3) (v := 3) (by decide +kernel) (by decide +kernel) ?_
              refine mz_ld148 (by decide +kernel) hc hI kz_3 (by omega) (by omega) (fun v67 ev67 pv67 => ?_)
              rw [ev67.trans ev30.symm]
              clear pv67 ev67 v67
              refine pe_iload_n (j := 1) (by decide +kernel) rfl ?_
              refine pz_icmp_gt (off := 4) (t := 47) (by decide +kernel) (by decide) rfl rfl kz_2 (fun h68 => ?_) (fun h68 => ?_)
              · skip
                refine pe_aload_n (j := 0) (by decide +kernel) rfl ?_
                refine pe_get (j := 7) (ci := 12) (n := 0) (by decide +kernel) (by decide +kernel) (md_o hc) rfl ?_
                refine pe_iconstv (n := 3) (v := 3) (by decide +kernel) (by decide +kernel) ?_
                refine pe_iload_n (j := 1) (by decide +kernel) rfl ?_
                refine mz_st148 (by decide +kernel) hc hI kz_3 (by omega) (by omega) (by rw [kz_2]; simp only [MT]; omega) (fun A69 eA69 hIA69 => ?_)
                refine pe_aload_n (j := 0) (by decide +kernel) rfl ?_
                refine pe_get (j := 7) (ci := 12) (n := 0) (by decide +kernel) (by decide +kernel) (md_o hc) rfl ?_
                refine pe_iconstv (n := 4) (v := 4) (by decide +kernel) (by decide +kernel) ?_
                refine pe_iload_n (j := 2) (by decide +kernel) rfl ?_
                refine mz_st148 (by decide +kernel) hc hIA69 kz_4 (by omega) (by omega) (by simp only [MT]; omega) (fun A70 eA70 hIA70 => ?_)
                refine pe_vret (by decide +kernel) rfl ⟨rfl, rfl, ?_⟩
                show pmE pg X pg_tyl pg_cl (d + 4) 212 25 [.ref 147, .int x1, pm_dead] [] (md wc f A70) _
                refine pe_aload_n (j := 0) (by decide +kernel) rfl ?_
                refine pe_iconstv (n := 0) (v := 0) (by decide +kernel) (by decide +kernel) ?_
                refine pe_bipushv (n := 8) (v := 8) (by decide +kernel) (by decide +kernel) ?_
                refine pz_callV (j := 130) (mj := 210) (by decide +kernel) (cll_V (args := [.int 8, .int 0]) (n := 2) (by decide +kernel) rfl rfl (md_o hc) (by decide +kernel) (Nat.le_of_ble_eq_true rfl) (Nat.le_of_ble_eq_true rfl)) (MM_210 hc hIA70) (fun q71a q71b q71c q71d hqq71 => ?_)
                obtain ⟨f72, A73, rq71, eq71, hIq71, hGq71, hFq71, kq71⟩ := hqq71
                cases eq71
                refine ⟨rfl, rfl, ?_⟩
                show pmE pg X pg_tyl pg_cl (d + 4) 212 32 [.ref 147, .int x1, pm_dead] [.int rq71] (md wc f72 A73) _
                refine pe_istore_n (j := 2) (ls' := [.ref 147, .int x1, .int rq71]) (by decide +kernel) (Nat.le_of_ble_eq_true rfl) rfl ?_
                refine pe_aload_n (j := 0) (by decide +kernel) rfl ?_
                refine pe_iload_n (j := 2) (by decide +kernel) rfl ?_
                refine pe_aload_n (j := 0) (by decide +kernel) rfl ?_
                refine pe_get (j := 134) (ci := 12) (n := 9) (by decide +kernel) (by decide +kernel) (md_o hc) rfl ?_
                refine pe_top (v := (f 9)) ((hGq71 9 (by decide) (by decide) (by decide) (by decide) (by decide) (by decide))) ?_
                have lw75 := zi_lo rq71
                have uw75 := zi_hi rq71
                have lw76 := zi_lo (f 9)
                have uw76 := zi_hi (f 9)
                refine pz_icmp_le (off := 7) (t := 46) (by decide +kernel) (by decide) rfl rfl rfl (fun h74 => ?_) (fun h74 => ?_)
                · skip
                  refine pe_aload_n (j := 0) (by decide +kernel) rfl ?_
                  refine pe_get (j := 134) (ci := 12) (n := 9) (by decide +kernel) (by decide +kernel) (md_o hc) rfl ?_
                  refine pe_top (v := (f 9)) ((hGq71 9 (by decide) (by decide) (by decide) (by decide) (by decide) (by decide))) ?_
                  refine mz_put9 (jj := 134) (by decide +kernel) (by decide +kernel) hc hIq71 (fun f77 ef77 hIf77 => ?_)
                  refine pe_iload_n (j := 2) (by decide +kernel) rfl ?_
                  exact pe_iret (by decide +kernel) rfl rfl ⟨f77, A73, rq71, rfl, hIf77, (fun k n3 n4 n5 n6 n7 n8 n9 => (upf_fr ef77 n9).trans ((hGq71 k n3 n4 n5 n6 n7 n8))), (fun k n148 => ((hFq71 k n148)).trans ((upa_fr eA70 n148).trans (upa_fr eA69 n148))), ⟨trivial, trivial⟩⟩
                · skip
                  refine pe_iload_n (j := 2) (by decide +kernel) rfl ?_
                  refine pe_goto (off := 7) (t := 50) (by decide +kernel) (by decide) rfl ?_
                  refine mz_put9 (jj := 134) (by decide +kernel) (by decide +kernel) hc hIq71 (fun f78 ef78 hIf78 => ?_)
                  refine pe_iload_n (j := 2) (by decide +kernel) rfl ?_
                  exact pe_iret (by decide +kernel) rfl rfl ⟨f78, A73, rq71, rfl, hIf78, (fun k n3 n4 n5 n6 n7 n8 n9 => (upf_fr ef78 n9).trans ((hGq71 k n3 n4 n5 n6 n7 n8))), (fun k n148 => ((hFq71 k n148)).trans ((upa_fr eA70 n148).trans (upa_fr eA69 n148))), ⟨trivial, trivial⟩⟩
              · skip
                refine pe_vret (by decide +kernel) rfl ⟨rfl, rfl, ?_⟩
                show pmE pg X pg_tyl pg_cl (d + 4) 212 25 [.ref 147, .int x1, pm_dead] [] (md wc f A) _
                refine pe_aload_n (j := 0) (by decide +kernel) rfl ?_
                refine pe_iconstv (n := 0) (v := 0) (by decide +kernel) (by decide +kernel) ?_
                refine pe_bipushv (n := 8) (v := 8) (by decide +kernel) (by decide +kernel) ?_
                refine pz_callV (j := 130) (mj := 210) (by decide +kernel) (cll_V (args := [.int 8, .int 0]) (n := 2) (by decide +kernel) rfl rfl (md_o hc) (by decide +kernel) (Nat.le_of_ble_eq_true rfl) (Nat.le_of_ble_eq_true rfl)) (MM_210 hc hI) (fun q79a q79b q79c q79d hqq79 => ?_)
                obtain ⟨f80, A81, rq79, eq79, hIq79, hGq79, hFq79, kq79⟩ := hqq79
                cases eq79
                refine ⟨rfl, rfl, ?_⟩
                show pmE pg X pg_tyl pg_cl (d + 4) 212 32 [.ref 147, .int x1, pm_dead] [.int rq79] (md wc f80 A81) _
                refine pe_istore_n (j := 2) (ls' := [.ref 147, .int x1, .int rq79]) (by decide +kernel) (Nat.le_of_ble_eq_true rfl) rfl ?_
                refine pe_aload_n (j := 0) (by decide +kernel) rfl ?_
                refine pe_iload_n (j := 2) (by decide +kernel) rfl ?_
                refine pe_aload_n (j := 0) (by decide +kernel) rfl ?_
                refine pe_get (j := 134) (ci := 12) (n := 9) (by decide +kernel) (by decide +kernel) (md_o hc) rfl ?_
                refine pe_top (v := (f 9)) ((hGq79 9 (by decide) (by decide) (by decide) (by decide) (by decide) (by decide))) ?_
                have lw83 := zi_lo rq79
                have uw83 := zi_hi rq79
                have lw84 := zi_lo (f 9)
                have uw84 := zi_hi (f 9)
                refine pz_icmp_le (off := 7) (t := 46) (by decide +kernel) (by decide) rfl rfl rfl (fun h82 => ?_) (fun h82 => ?_)
                · skip
                  refine pe_aload_n (j := 0) (by decide +kernel) rfl ?_
                  refine pe_get (j := 134) (ci := 12) (n := 9) (by decide +kernel) (by decide +kernel) (md_o hc) rfl ?_
                  refine pe_top (v := (f 9)) ((hGq79 9 (by decide) (by decide) (by decide) (by decide) (by decide) (by decide))) ?_
                  refine mz_put9 (jj := 134) (by decide +kernel) (by decide +kernel) hc hIq79 (fun f85 ef85 hIf85 => ?_)
                  refine pe_iload_n (j := 2) (by decide +kernel) rfl ?_
                  exact pe_iret (by decide +kernel) rfl rfl ⟨f85, A81, rq79, rfl, hIf85, (fun k n3 n4 n5 n6 n7 n8 n9 => (upf_fr ef85 n9).trans ((hGq79 k n3 n4 n5 n6 n7 n8))), (fun k n148 => (hFq79 k n148)), ⟨trivial, trivial⟩⟩
                · skip
                  refine pe_iload_n (j := 2) (by decide +kernel) rfl ?_
                  refine pe_goto (off := 7) (t := 50) (by decide +kernel) (by decide) rfl ?_
                  refine mz_put9 (jj := 134) (by decide +kernel) (by decide +kernel) hc hIq79 (fun f86 ef86 hIf86 => ?_)
                  refine pe_iload_n (j := 2) (by decide +kernel) rfl ?_
                  exact pe_iret (by decide +kernel) rfl rfl ⟨f86, A81, rq79, rfl, hIf86, (fun k n3 n4 n5 n6 n7 n8 n9 => (upf_fr ef86 n9).trans ((hGq79 k n3 n4 n5 n6 n7 n8))), (fun k n148 => (hFq79 k n148)), ⟨trivial, trivial⟩⟩
set_option maxRecDepth 100000 in
set_option maxHeartbeats 8000000 in
theorem ML_268_46 {X : pm_X} {d : Nat} {wc : pm_W} {Q : pm_R → Prop} {f : Nat → Int32} {A : Nat → List Int32} {x1 x2 x3 x4 x5 : Int32} (hc : wc.length = 147) (hI : MI f A) (gx1 : (610 ≤ x1.toInt ∧ x1.toInt ≤ 742 ∧ (x1.toInt - 610) % 132 = 0)) (gx2 : (1 ≤ x2.toInt ∧ x2.toInt ≤ 2)) (gx3 : (2 ≤ x3.toInt ∧ x3.toInt ≤ 6)) (gx4 : (0 ≤ x4.toInt)) (gx5 : (0 ≤ x5.toInt)) (k_105_0 : ∀ (y6 : Int32) (y7 : Int32), (2 ≤ y7.toInt ∧ y7.toInt ≤ 6) → x3.toInt ≤ y7.toInt → (∀ j : Int, (0) ≤ j → j < (y7.toInt) → 0 ≤ ((A 158).getD j.toNat 0).toInt ∧ ((A 158).getD j.toNat 0).toInt ≤ 8) → pmE pg X pg_tyl pg_cl (d + 2) 268 105 [.ref 147, .int x1, .int x2, .int x3, .int x4, .int x5, .int y6, .int y7] [] (md wc f A) Q) (kr_0 : Q (some (.int 0), md wc f A, 0, 0)) : ∀ (m : Nat) (x6 : Int32) (x7 : Int32), (0 ≤ x7.toInt ∧ x7.toInt ≤ 6) → (∀ j : Int, (0) ≤ j → j < (x7.toInt) → 0 ≤ ((A 158).getD j.toNat 0).toInt ∧ ((A 158).getD j.toNat 0).toInt ≤ 8) → 6 - x7.toInt < (m : Int) → pmE pg X pg_tyl pg_cl (d + 2) 268 46 [.ref 147, .int x1, .int x2, .int x3, .int x4, .int x5, .int x6, .int x7] [] (md wc f A) Q := by
  intro m
  induction m with
  | zero =>
    intro x6 x7 gx7 hv0 hm
    exfalso
    have l0 := zi_lo x7
    have u0 := zi_hi x7
    omega
  | succ m ih =>
    intro x6 x7 gx7 hv0 hm
    refine pe_iload (j := 7) (by decide +kernel) rfl ?_
    refine pe_iload_n (j := 3) (by decide +kernel) rfl ?_
    refine pz_icmp_ge (off := 56) (t := 105) (by decide +kernel) (by decide) rfl rfl rfl (fun h1 => ?_) (fun h1 => ?_)
    · skip
      have hq2 : (∀ j : Int, (0) ≤ j → j < (x7.toInt) → 0 ≤ ((A 158).getD j.toNat 0).toInt ∧ ((A 158).getD j.toNat 0).toInt ≤ 8) := by
        intro j h1 h2
        first
        | (exfalso; omega)
        | exact hv0 j (by omega) (by omega)
      exact k_105_0 x6 x7 (by omega) (by omega) hq2
    · skip
      refine pe_aload_n (j := 0) (by decide +kernel) rfl ?_
      refine pe_iload_n (j := 1) (by decide +kernel) rfl ?_
      refine pe_aload_n (j := 0) (by decide +kernel) rfl ?_
      refine pe_get (j := 41) (ci := 12) (n := 21) (by decide +kernel) (by decide +kernel) (md_o hc) rfl ?_
      refine pe_iload (j := 7) (by decide +kernel) rfl ?_
      refine mz_ld158 (by decide +kernel) hc hI rfl (by omega) (by omega) (fun v3 ev3 pv3 => ?_)
      have rv3 : 0 ≤ v3.toInt ∧ v3.toInt ≤ 9 := by have p := pv3; simp only [MP_round] at p; omega
      clear pv3
      refine pi_V (j := 166) (mj := 221) (by decide +kernel) (cll_V (args := [.int v3, .int x1]) (n := 2) (by decide +kernel) rfl rfl (md_o hc) (by decide +kernel) (Nat.le_of_ble_eq_true rfl) (Nat.le_of_ble_eq_true rfl)) ?_
      show pmE pg X pg_tyl pg_cl (d + 1) 221 0 [.ref 147, .int x1, .int v3] [] (md wc f A) _
      refine pe_iload_n (j := 2) (by decide +kernel) rfl ?_
      refine pe_iconstv (n := 0) (v := 0) (by decide +kernel) (by decide +kernel) ?_
      refine pe_aload_n (j := 0) (by decide +kernel) rfl ?_
      refine pe_get (j := 7) (ci := 12) (n := 0) (by decide +kernel) (by decide +kernel) (md_o hc) rfl ?_
      refine pe_iload_n (j := 1) (by decide +kernel) rfl ?_
      refine mz_ld148 (by decide +kernel) hc hI rfl (by omega) (by omega) (fun v4 ev4 pv4 => ?_)
      have rv4 : 0 ≤ v4.toInt ∧ v4.toInt ≤ 9 := MT_people pv4 (by omega)
      clear pv4
      refine pe_iconstv (n := 1) (v := 1) (by decide +kernel) (by decide +kernel) ?_
      refine pz_sub (by decide +kernel) rfl kz_1 (by omega) (by omega) (fun z5 hz5 => ?_)
      refine pi_S (j := 119) (mj := 199) (by decide +kernel) (by decide +kernel) rfl ?_
      show pmE pg X pg_tyl pg_cl (d) 199 0 [.int v3, .int 0, .int z5] [] (md wc f A) _
      refine pe_iload_n (j := 0) (by decide +kernel) rfl ?_
      refine pe_iload_n (j := 1) (by decide +kernel) rfl ?_
      refine pz_icmp_lt (off := 12) (t := 14) (by decide +kernel) (by decide) rfl rfl kz_0 (fun h6 => by omega) (fun h6 => ?_)
      refine pe_iload_n (j := 0) (by decide +kernel) rfl ?_
      refine pe_iload_n (j := 2) (by decide +kernel) rfl ?_
      refine pz_icmp_gt (off := 7) (t := 14) (by decide +kernel) (by decide) rfl rfl hz5 (fun h7 => ?_) (fun h7 => ?_)
      · skip
        refine pe_iconstv (n := 0) (v := 0) (by decide +kernel) (by decide +kernel) ?_
        refine pe_iret (by decide +kernel) rfl rfl ⟨rfl, rfl, ?_⟩
        show pmE pg X pg_tyl pg_cl (d + 1) 221 13 [.ref 147, .int x1, .int v3] [.int 0] (md wc f A) _
        refine pe_iret (by decide +kernel) rfl rfl ⟨rfl, rfl, ?_⟩
        show pmE pg X pg_tyl pg_cl (d + 2) 268 64 [.ref 147, .int x1, .int x2, .int x3, .int x4, .int x5, .int x6, .int x7] [.int 0] (md wc f A) _
        refine pz_if_eq (off := 19) (t := 83) (by decide +kernel) (by decide) rfl kz_0 (fun h8 => ?_) (fun h8 => by omega)
        refine pe_iconstv (n := 0) (v := 0) (by decide +kernel) (by decide +kernel) ?_
        exact pe_iret (by decide +kernel) rfl rfl kr_0
      · skip
        refine pe_iconstv (n := 1) (v := 1) (by decide +kernel) (by decide +kernel) ?_
        refine pe_goto (off := 4) (t := 15) (by decide +kernel) (by decide) rfl ?_
        refine pe_iret (by decide +kernel) rfl rfl ⟨rfl, rfl, ?_⟩
        show pmE pg X pg_tyl pg_cl (d + 1) 221 13 [.ref 147, .int x1, .int v3] [.int 1] (md wc f A) _
        refine pe_iret (by decide +kernel) rfl rfl ⟨rfl, rfl, ?_⟩
        show pmE pg X pg_tyl pg_cl (d + 2) 268 64 [.ref 147, .int x1, .int x2, .int x3, .int x4, .int x5, .int x6, .int x7] [.int 1] (md wc f A) _
        refine pz_if_eq (off := 19) (t := 83) (by decide +kernel) (by decide) rfl kz_1 (fun h9 => by omega) (fun h9 => ?_)
        refine pe_iload (j := 6) (by decide +kernel) rfl ?_
        refine pe_aload_n (j := 0) (by decide +kernel) rfl ?_
        refine pe_get (j := 41) (ci := 12) (n := 21) (by decide +kernel) (by decide +kernel) (md_o hc) rfl ?_
        refine pe_iload (j := 7) (by decide +kernel) rfl ?_
        refine mz_ld158 (by decide +kernel) hc hI rfl (by omega) (by omega) (fun v10 ev10 pv10 => ?_)
        rw [ev10.trans ev3.symm]
        clear pv10 ev10 v10
        refine pw_shr (by decide +kernel) (fun z11 => ?_)
        refine pe_iconstv (n := 1) (v := 1) (by decide +kernel) (by decide +kernel) ?_
        refine pz_and1 (by decide +kernel) (fun z12 hz12 => ?_)
        refine pe_iconstv (n := 1) (v := 1) (by decide +kernel) (by decide +kernel) ?_
        refine pz_icmp_ne (off := 5) (t := 85) (by decide +kernel) (by decide) rfl rfl kz_1 (fun h13 => ?_) (fun h13 => ?_)
        · skip
          refine pe_iload (j := 6) (by decide +kernel) rfl ?_
          refine pe_iconstv (n := 1) (v := 1) (by decide +kernel) (by decide +kernel) ?_
          refine pe_aload_n (j := 0) (by decide +kernel) rfl ?_
          refine pe_get (j := 41) (ci := 12) (n := 21) (by decide +kernel) (by decide +kernel) (md_o hc) rfl ?_
          refine pe_iload (j := 7) (by decide +kernel) rfl ?_
          refine mz_ld158 (by decide +kernel) hc hI rfl (by omega) (by omega) (fun v14 ev14 pv14 => ?_)
          rw [ev14.trans ev3.symm]
          clear pv14 ev14 v14
          refine pw_shl (by decide +kernel) (fun z15 => ?_)
          refine pw_or (by decide +kernel) (fun z16 => ?_)
          refine pe_istore (j := 6) (ls' := [.ref 147, .int x1, .int x2, .int x3, .int x4, .int x5, .int z16, .int x7]) (by decide +kernel) (Nat.le_of_ble_eq_true rfl) rfl ?_
          refine pz_iinc (j := 7) (n := 1) (by decide +kernel) rfl rfl (by decide +kernel) (by omega) (by omega) (fun z17 hz17 => ?_)
          show pmE pg X pg_tyl pg_cl (d + 2) 268 102 [.ref 147, .int x1, .int x2, .int x3, .int x4, .int x5, .int z16, .int z17] [] (md wc f A) _
          refine pe_goto (off := (-56)) (t := 46) (by decide +kernel) (by decide) rfl ?_
          have hq18 : (∀ j : Int, (0) ≤ j → j < (z17.toInt) → 0 ≤ ((A 158).getD j.toNat 0).toInt ∧ ((A 158).getD j.toNat 0).toInt ≤ 8) := by
            intro j h1 h2
            first
            | (exfalso; omega)
            | exact hv0 j (by omega) (by omega)
            | (by_cases e : (0) ≤ j ∧ j < (x7.toInt)
               · exact hv0 j e.1 e.2
               · have e3 : j.toNat = (x7.toInt).toNat := by omega
                 rw [e3, ← ev3]; omega)
          exact ih z16 z17 (by omega) hq18 (by omega)
        · skip
          refine pe_iconstv (n := 0) (v := 0) (by decide +kernel) (by decide +kernel) ?_
          exact pe_iret (by decide +kernel) rfl rfl kr_0
set_option maxRecDepth 100000 in
set_option maxHeartbeats 8000000 in
theorem ML_268_9 {X : pm_X} {d : Nat} {wc : pm_W} {Q : pm_R → Prop} {f : Nat → Int32} {A0 : Nat → List Int32} {x1 x2 x3 x4 : Int32} (hc : wc.length = 147) (gx1 : (610 ≤ x1.toInt ∧ x1.toInt ≤ 742 ∧ (x1.toInt - 610) % 132 = 0)) (gx2 : (1 ≤ x2.toInt ∧ x2.toInt ≤ 2)) (gx3 : (2 ≤ x3.toInt ∧ x3.toInt ≤ 6)) (gx4 : (0 ≤ x4.toInt)) (k_40_0 : ∀ (A' : Nat → List Int32) (y5 : Int32) (y6 : Int32), MI f A' → (∀ k : Nat, k ≠ 158 → A' k = A0 k) → (0 ≤ y5.toInt) → (0 ≤ y6.toInt ∧ y6.toInt ≤ 1) → pmE pg X pg_tyl pg_cl (d + 2) 268 40 [.ref 147, .int x1, .int x2, .int x3, .int x4, .int y5, .int y6, pm_dead] [] (md wc f A') Q) : ∀ (m : Nat) (A : Nat → List Int32) (x5 : Int32) (x6 : Int32), MI f A → (∀ k : Nat, k ≠ 158 → A k = A0 k) → (0 ≤ x5.toInt) → (0 ≤ x6.toInt ∧ x6.toInt ≤ 5) → x6.toInt - 0 < (m : Int) → pmE pg X pg_tyl pg_cl (d + 2) 268 9 [.ref 147, .int x1, .int x2, .int x3, .int x4, .int x5, .int x6, pm_dead] [] (md wc f A) Q := by
  intro m
  induction m with
  | zero =>
    intro A x5 x6 hI hF gx5 gx6 hm
    exfalso
    have l0 := zi_lo x6
    have u0 := zi_hi x6
    omega
  | succ m ih =>
    intro A x5 x6 hI hF gx5 gx6 hm
    refine pe_iload (j := 6) (by decide +kernel) rfl ?_
    refine pe_iload_n (j := 2) (by decide +kernel) rfl ?_
    refine pz_icmp_lt (off := 28) (t := 40) (by decide +kernel) (by decide) rfl rfl rfl (fun h1 => ?_) (fun h1 => ?_)
    · skip
      exact k_40_0 A x5 x6 hI (fun k n158 => (hF k n158)) (by omega) (by omega)
    · skip
      refine pe_aload_n (j := 0) (by decide +kernel) rfl ?_
      refine pe_get (j := 41) (ci := 12) (n := 21) (by decide +kernel) (by decide +kernel) (md_o hc) rfl ?_
      refine pe_iload (j := 6) (by decide +kernel) rfl ?_
      refine pe_iload (j := 5) (by decide +kernel) rfl ?_
      refine pe_bipushv (n := 9) (v := 9) (by decide +kernel) (by decide +kernel) ?_
      refine pz_rem (by decide +kernel) rfl kz_9 (by omega) (by omega) (fun z2 hz2 gz2 kz2 => ?_)
      refine mz_st158 (by decide +kernel) hc hI rfl (by omega) (by omega) (by simp only [MP_round]; omega) (fun A3 eA3 hIA3 => ?_)
      refine pe_iload (j := 5) (by decide +kernel) rfl ?_
      refine pe_bipushv (n := 9) (v := 9) (by decide +kernel) (by decide +kernel) ?_
      refine pz_div (by decide +kernel) rfl kz_9 (by omega) (by omega) (fun z4 hz4 => ?_)
      refine pe_istore (j := 5) (ls' := [.ref 147, .int x1, .int x2, .int x3, .int x4, .int z4, .int x6, pm_dead]) (by decide +kernel) (Nat.le_of_ble_eq_true rfl) rfl ?_
      refine pz_iinc (j := 6) (n := (-1)) (by decide +kernel) rfl rfl (by decide +kernel) (by omega) (by omega) (fun z5 hz5 => ?_)
      show pmE pg X pg_tyl pg_cl (d + 2) 268 37 [.ref 147, .int x1, .int x2, .int x3, .int x4, .int z4, .int z5, pm_dead] [] (md wc f A3) _
      refine pe_goto (off := (-28)) (t := 9) (by decide +kernel) (by decide) rfl ?_
      exact ih A3 z4 z5 hIA3 (fun k n158 => (upa_fr eA3 n158).trans ((hF k n158))) (by omega) (by omega) (by omega)
set_option maxRecDepth 100000 in
set_option maxHeartbeats 8000000 in
theorem MM_268 {X : pm_X} {d : Nat} {wc : pm_W} {f : Nat → Int32} {A : Nat → List Int32} {x1 x2 x3 x4 : Int32} (hc : wc.length = 147) (hI : MI f A) (gx1 : (610 ≤ x1.toInt ∧ x1.toInt ≤ 742 ∧ (x1.toInt - 610) % 132 = 0)) (gx2 : (1 ≤ x2.toInt ∧ x2.toInt ≤ 2)) (gx3 : (2 ≤ x3.toInt ∧ x3.toInt ≤ 6)) (gx4 : (0 ≤ x4.toInt)) : pmE pg X pg_tyl pg_cl (d + 2) 268 0 (pm_ent (pm_max pg 268) [.ref 147, .int x1, .int x2, .int x3, .int x4]) [] (md wc f A) (fun q => ∃ (A' : Nat → List Int32) (r : Int32), q = (some (.int r), md wc f A', 0, 0) ∧ MI f A' ∧ (∀ k : Nat, k ≠ 158 → A' k = A k) ∧ ((r = 0 ∧ True) ∨ (r = 1 ∧ (∀ j : Int, (0) ≤ j → j < (x3.toInt) → 0 ≤ ((A' 158).getD j.toNat 0).toInt ∧ ((A' 158).getD j.toNat 0).toInt ≤ 8) ∧ True))) := by
  show pmE pg X pg_tyl pg_cl (d + 2) 268 0 [.ref 147, .int x1, .int x2, .int x3, .int x4, pm_dead, pm_dead, pm_dead] [] (md wc f A) _
  refine pe_iload (j := 4) (by decide +kernel) rfl ?_
  refine pe_istore (j := 5) (ls' := [.ref 147, .int x1, .int x2, .int x3, .int x4, .int x4, pm_dead, pm_dead]) (by decide +kernel) (Nat.le_of_ble_eq_true rfl) rfl ?_
  refine pe_iload_n (j := 3) (by decide +kernel) rfl ?_
  refine pe_iconstv (n := 1) (v := 1) (by decide +kernel) (by decide +kernel) ?_
  refine pz_sub (by decide +kernel) rfl kz_1 (by omega) (by omega) (fun z1 hz1 => ?_)
  refine pe_istore (j := 6) (ls' := [.ref 147, .int x1, .int x2, .int x3, .int x4, .int x4, .int z1, pm_dead]) (by decide +kernel) (Nat.le_of_ble_eq_true rfl) rfl ?_
  refine ML_268_9 hc (by omega) (by omega) (by omega) (by omega) (fun A2 y4 y5 hIy3 hFhIy3 gy4 gy5 => ?_) 6 A x4 z1 hI (fun k _ => rfl) (by omega) (by omega) (by have l0 := zi_lo z1; have u0 := zi_hi z1; omega)
  refine pe_iconstv (n := 0) (v := 0) (by decide +kernel) (by decide +kernel) ?_
  refine pe_istore (j := 6) (ls' := [.ref 147, .int x1, .int x2, .int x3, .int x4, .int y4, .int 0, pm_dead]) (by decide +kernel) (Nat.le_of_ble_eq_true rfl) rfl ?_
  refine pe_iconstv (n := 0) (v := 0) (by decide +kernel) (by decide +kernel) ?_
  refine pe_istore (j := 7) (ls' := [.ref 147, .int x1, .int x2, .int x3, .int x4, .int y4, .int 0, .int 0]) (by decide +kernel) (Nat.le_of_ble_eq_true rfl) rfl ?_
  have hq10 : (∀ j : Int, (0) ≤ j → j < ((0 : Int32).toInt) → 0 ≤ ((A2 158).getD j.toNat 0).toInt ∧ ((A2 158).getD j.toNat 0).toInt ≤ 8) := by
    intro j h1 h2
    have hl_x7 := kz_0
    first
    | (exfalso; omega)
  refine ML_268_46 hc hIy3 (by omega) (by omega) (by omega) (by omega) (by omega) (fun y6 y7 gy7 hr8 hq9 => ?_) (⟨A2, 0, rfl, hIy3, (fun k n158 => (hFhIy3 k n158)), Or.inl ⟨rfl, trivial⟩⟩) 7 0 0 (by decide +kernel) hq10 (by decide +kernel)
  refine pe_iconstv (n := 1) (v := 1) (by decide +kernel) (by decide +kernel) ?_
  have hqr0 : (∀ j : Int, (0) ≤ j → j < (x3.toInt) → 0 ≤ ((A2 158).getD j.toNat 0).toInt ∧ ((A2 158).getD j.toNat 0).toInt ≤ 8) := by
    intro j h1 h2
    first
    | (exfalso; omega)
    | exact hq9 j (by omega) (by omega)
  exact pe_iret (by decide +kernel) rfl rfl ⟨A2, 1, rfl, hIy3, (fun k n158 => (hFhIy3 k n158)), Or.inr (⟨rfl, hqr0, trivial⟩)⟩
