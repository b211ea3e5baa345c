set_option maxRecDepth 100000 in
set_option maxHeartbeats 8000000 in
theorem MM_212 {X : pm_X} {d : Nat} {wc : pm_W} {f : Nat → Int32} {A : Nat → List Int32} {x1 : Int32} (hc : wc.length = 147) (hI : MI f A) : pmE pg X pg_tyl pg_cl (d + 4) 212 0 (pm_ent (pm_max pg 212) [.ref 147, .int x1]) [] (md wc f A) (fun q => ∃ (f' : Nat → Int32) (A' : Nat → List Int32) (r : Int32), q = (some (.int r), md wc f' A', 0, 0) ∧ MI f' A' ∧ (∀ k : Nat, k ≠ 3 → k ≠ 4 → k ≠ 5 → k ≠ 6 → k ≠ 7 → k ≠ 8 → k ≠ 9 → f' k = f k) ∧ (∀ k : Nat, k ≠ 148 → A' k = A k) ∧ ((True ∧ True))) := by
  show pmE pg X pg_tyl pg_cl (d + 4) 212 0 [.ref 147, .int x1, pm_dead] [] (md wc f A) _
  refine pe_aload_n (j := 0) (by decide +kernel) rfl ?_
  refine pe_get (j := 93) (ci := 12) (n := 5) (by decide +kernel) (by decide +kernel) (md_o hc) rfl ?_
  have hr_5_f := hI.1 5
  simp only [MF] at hr_5_f
  refine pe_iconstv (n := 1) (v := 1) (by decide +kernel) (by decide +kernel) ?_
  refine pz_icmp_ne (off := 20) (t := 25) (by decide +kernel) (by decide) rfl rfl kz_1 (fun h1 => ?_) (fun h1 => ?_)
  · skip
    refine pe_aload_n (j := 0) (by decide +kernel) rfl ?_
    refine pe_iconstv (n := 0) (v := 0) (by decide +kernel) (by decide +kernel) ?_
    refine pe_bipushv (n := 8) (v := 8) (by decide +kernel) (by decide +kernel) ?_
    refine pz_callV (j := 130) (mj := 210) (by decide +kernel) (cll_V (args := [.int 8, .int 0]) (n := 2) (by decide +kernel) rfl rfl (md_o hc) (by decide +kernel) (Nat.le_of_ble_eq_true rfl) (Nat.le_of_ble_eq_true rfl)) (MM_210 hc hI) (fun q2a q2b q2c q2d hqq2 => ?_)
    obtain ⟨f3, A4, rq2, eq2, hIq2, hGq2, hFq2, kq2⟩ := hqq2
    cases eq2
    refine ⟨rfl, rfl, ?_⟩
    show pmE pg X pg_tyl pg_cl (d + 4) 212 32 [.ref 147, .int x1, pm_dead] [.int rq2] (md wc f3 A4) _
    refine pe_istore_n (j := 2) (ls' := [.ref 147, .int x1, .int rq2]) (by decide +kernel) (Nat.le_of_ble_eq_true rfl) rfl ?_
    refine pe_aload_n (j := 0) (by decide +kernel) rfl ?_
    refine pe_iload_n (j := 2) (by decide +kernel) rfl ?_
    refine pe_aload_n (j := 0) (by decide +kernel) rfl ?_
    refine pe_get (j := 134) (ci := 12) (n := 9) (by decide +kernel) (by decide +kernel) (md_o hc) rfl ?_
    refine pe_top (v := (f 9)) ((hGq2 9 (by decide) (by decide) (by decide) (by decide) (by decide) (by decide))) ?_
    refine pz_icmp_le (off := 7) (t := 46) (by decide +kernel) (by decide) rfl rfl rfl (fun h5 => ?_) (fun h5 => ?_)
    · skip
      refine pe_aload_n (j := 0) (by decide +kernel) rfl ?_
      refine pe_get (j := 134) (ci := 12) (n := 9) (by decide +kernel) (by decide +kernel) (md_o hc) rfl ?_
      refine pe_top (v := (f 9)) ((hGq2 9 (by decide) (by decide) (by decide) (by decide) (by decide) (by decide))) ?_
      refine mz_put9 (jj := 134) (by decide +kernel) (by decide +kernel) hc hIq2 (fun f6 ef6 hIf6 => ?_)
      refine pe_iload_n (j := 2) (by decide +kernel) rfl ?_
      exact pe_iret (by decide +kernel) rfl rfl ⟨f6, A4, rq2, rfl, hIf6, (fun k n3 n4 n5 n6 n7 n8 n9 => (upf_fr ef6 n9).trans ((hGq2 k n3 n4 n5 n6 n7 n8))), (fun k n148 => (hFq2 k n148)), ⟨trivial, trivial⟩⟩
    · skip
      refine pe_iload_n (j := 2) (by decide +kernel) rfl ?_
      refine pe_goto (off := 7) (t := 50) (by decide +kernel) (by decide) rfl ?_
      refine mz_put9 (jj := 134) (by decide +kernel) (by decide +kernel) hc hIq2 (fun f7 ef7 hIf7 => ?_)
      refine pe_iload_n (j := 2) (by decide +kernel) rfl ?_
      exact pe_iret (by decide +kernel) rfl rfl ⟨f7, A4, rq2, rfl, hIf7, (fun k n3 n4 n5 n6 n7 n8 n9 => (upf_fr ef7 n9).trans ((hGq2 k n3 n4 n5 n6 n7 n8))), (fun k n148 => (hFq2 k n148)), ⟨trivial, trivial⟩⟩
  · skip
    refine pe_aload_n (j := 0) (by decide +kernel) rfl ?_
    refine pe_get (j := 109) (ci := 12) (n := 6) (by decide +kernel) (by decide +kernel) (md_o hc) rfl ?_
    refine pe_iload_n (j := 1) (by decide +kernel) rfl ?_
    refine pz_icmp_ne (off := 12) (t := 25) (by decide +kernel) (by decide) rfl rfl rfl (fun h8 => ?_) (fun h8 => ?_)
    · skip
      refine pe_aload_n (j := 0) (by decide +kernel) rfl ?_
      refine pe_iconstv (n := 0) (v := 0) (by decide +kernel) (by decide +kernel) ?_
      refine pe_bipushv (n := 8) (v := 8) (by decide +kernel) (by decide +kernel) ?_
      refine pz_callV (j := 130) (mj := 210) (by decide +kernel) (cll_V (args := [.int 8, .int 0]) (n := 2) (by decide +kernel) rfl rfl (md_o hc) (by decide +kernel) (Nat.le_of_ble_eq_true rfl) (Nat.le_of_ble_eq_true rfl)) (MM_210 hc hI) (fun q9a q9b q9c q9d hqq9 => ?_)
      obtain ⟨f10, A11, rq9, eq9, hIq9, hGq9, hFq9, kq9⟩ := hqq9
      cases eq9
      refine ⟨rfl, rfl, ?_⟩
      show pmE pg X pg_tyl pg_cl (d + 4) 212 32 [.ref 147, .int x1, pm_dead] [.int rq9] (md wc f10 A11) _
      refine pe_istore_n (j := 2) (ls' := [.ref 147, .int x1, .int rq9]) (by decide +kernel) (Nat.le_of_ble_eq_true rfl) rfl ?_
      refine pe_aload_n (j := 0) (by decide +kernel) rfl ?_
      refine pe_iload_n (j := 2) (by decide +kernel) rfl ?_
      refine pe_aload_n (j := 0) (by decide +kernel) rfl ?_
      refine pe_get (j := 134) (ci := 12) (n := 9) (by decide +kernel) (by decide +kernel) (md_o hc) rfl ?_
      refine pe_top (v := (f 9)) ((hGq9 9 (by decide) (by decide) (by decide) (by decide) (by decide) (by decide))) ?_
      refine pz_icmp_le (off := 7) (t := 46) (by decide +kernel) (by decide) rfl rfl rfl (fun h12 => ?_) (fun h12 => ?_)
      · skip
        refine pe_aload_n (j := 0) (by decide +kernel) rfl ?_
        refine pe_get (j := 134) (ci := 12) (n := 9) (by decide +kernel) (by decide +kernel) (md_o hc) rfl ?_
        refine pe_top (v := (f 9)) ((hGq9 9 (by decide) (by decide) (by decide) (by decide) (by decide) (by decide))) ?_
        refine mz_put9 (jj := 134) (by decide +kernel) (by decide +kernel) hc hIq9 (fun f13 ef13 hIf13 => ?_)
        refine pe_iload_n (j := 2) (by decide +kernel) rfl ?_
        exact pe_iret (by decide +kernel) rfl rfl ⟨f13, A11, rq9, rfl, hIf13, (fun k n3 n4 n5 n6 n7 n8 n9 => (upf_fr ef13 n9).trans ((hGq9 k n3 n4 n5 n6 n7 n8))), (fun k n148 => (hFq9 k n148)), ⟨trivial, trivial⟩⟩
      · skip
        refine pe_iload_n (j := 2) (by decide +kernel) rfl ?_
        refine pe_goto (off := 7) (t := 50) (by decide +kernel) (by decide) rfl ?_
        refine mz_put9 (jj := 134) (by decide +kernel) (by decide +kernel) hc hIq9 (fun f14 ef14 hIf14 => ?_)
        refine pe_iload_n (j := 2) (by decide +kernel) rfl ?_
        exact pe_iret (by decide +kernel) rfl rfl ⟨f14, A11, rq9, rfl, hIf14, (fun k n3 n4 n5 n6 n7 n8 n9 => (upf_fr ef14 n9).trans ((hGq9 k n3 n4 n5 n6 n7 n8))), (fun k n148 => (hFq9 k n148)), ⟨trivial, trivial⟩⟩
    · skip
      refine pe_aload_n (j := 0) (by decide +kernel) rfl ?_
      refine pe_iconstv (n := 2) (v := 2) (by decide +kernel) (by decide +kernel) ?_
      refine pe_aload_n (j := 0) (by decide +kernel) rfl ?_
      refine pe_get (j := 90) (ci := 12) (n := 4) (by decide +kernel) (by decide +kernel) (md_o hc) rfl ?_
      refine pi_V (j := 123) (mj := 211) (by decide +kernel) (cll_V (args := [.int (f 4), .int 2]) (n := 2) (by decide +kernel) rfl rfl (md_o hc) (by decide +kernel) (Nat.le_of_ble_eq_true rfl) (Nat.le_of_ble_eq_true rfl)) ?_
      show pmE pg X pg_tyl pg_cl (d + 3) 211 0 [.ref 147, .int 2, .int (f 4)] [] (md wc f A) _
      refine pe_aload_n (j := 0) (by decide +kernel) rfl ?_
      refine pe_get (j := 112) (ci := 12) (n := 8) (by decide +kernel) (by decide +kernel) (md_o hc) rfl ?_
      have hr_8_f := hI.1 8
      simp only [MF] at hr_8_f
      refine pz_if_ne (off := 42) (t := 46) (by decide +kernel) (by decide) rfl rfl (fun h15 => ?_) (fun h15 => ?_)
      · skip
        refine pe_vret (by decide +kernel) rfl ⟨rfl, rfl, ?_⟩
        show pmE pg X pg_tyl pg_cl (d + 4) 212 25 [.ref 147, .int x1, pm_dead] [] (md wc f A) _
        refine pe_aload_n (j := 0) (by decide +kernel) rfl ?_
        refine pe_iconstv (n := 0) (v := 0) (by decide +kernel) (by decide +kernel) ?_
        refine pe_bipushv (n := 8) (v := 8) (by decide +kernel) (by decide +kernel) ?_
        refine pz_callV (j := 130) (mj := 210) (by decide +kernel) (cll_V (args := [.int 8, .int 0]) (n := 2) (by decide +kernel) rfl rfl (md_o hc) (by decide +kernel) (Nat.le_of_ble_eq_true rfl) (Nat.le_of_ble_eq_true rfl)) (MM_210 hc hI) (fun q16a q16b q16c q16d hqq16 => ?_)
        obtain ⟨f17, A18, rq16, eq16, hIq16, hGq16, hFq16, kq16⟩ := hqq16
        cases eq16
        refine ⟨rfl, rfl, ?_⟩
        show pmE pg X pg_tyl pg_cl (d + 4) 212 32 [.ref 147, .int x1, pm_dead] [.int rq16] (md wc f17 A18) _
        refine pe_istore_n (j := 2) (ls' := [.ref 147, .int x1, .int rq16]) (by decide +kernel) (Nat.le_of_ble_eq_true rfl) rfl ?_
        refine pe_aload_n (j := 0) (by decide +kernel) rfl ?_
        refine pe_iload_n (j := 2) (by decide +kernel) rfl ?_
        refine pe_aload_n (j := 0) (by decide +kernel) rfl ?_
        refine pe_get (j := 134) (ci := 12) (n := 9) (by decide +kernel) (by decide +kernel) (md_o hc) rfl ?_
        refine pe_top (v := (f 9)) ((hGq16 9 (by decide) (by decide) (by decide) (by decide) (by decide) (by decide))) ?_
        refine pz_icmp_le (off := 7) (t := 46) (by decide +kernel) (by decide) rfl rfl rfl (fun h19 => ?_) (fun h19 => ?_)
        · skip
          refine pe_aload_n (j := 0) (by decide +kernel) rfl ?_
          refine pe_get (j := 134) (ci := 12) (n := 9) (by decide +kernel) (by decide +kernel) (md_o hc) rfl ?_
          refine pe_top (v := (f 9)) ((hGq16 9 (by decide) (by decide) (by decide) (by decide) (by decide) (by decide))) ?_
          refine mz_put9 (jj := 134) (by decide +kernel) (by decide +kernel) hc hIq16 (fun f20 ef20 hIf20 => ?_)
          refine pe_iload_n (j := 2) (by decide +kernel) rfl ?_
          exact pe_iret (by decide +kernel) rfl rfl ⟨f20, A18, rq16, rfl, hIf20, (fun k n3 n4 n5 n6 n7 n8 n9 => (upf_fr ef20 n9).trans ((hGq16 k n3 n4 n5 n6 n7 n8))), (fun k n148 => (hFq16 k n148)), ⟨trivial, trivial⟩⟩
        · skip
          refine pe_iload_n (j := 2) (by decide +kernel) rfl ?_
          refine pe_goto (off := 7) (t := 50) (by decide +kernel) (by decide) rfl ?_
          refine mz_put9 (jj := 134) (by decide +kernel) (by decide +kernel) hc hIq16 (fun f21 ef21 hIf21 => ?_)
          refine pe_iload_n (j := 2) (by decide +kernel) rfl ?_
          exact pe_iret (by decide +kernel) rfl rfl ⟨f21, A18, rq16, rfl, hIf21, (fun k n3 n4 n5 n6 n7 n8 n9 => (upf_fr ef21 n9).trans ((hGq16 k n3 n4 n5 n6 n7 n8))), (fun k n148 => (hFq16 k n148)), ⟨trivial, trivial⟩⟩
      · skip
        refine pe_aload_n (j := 0) (by decide +kernel) rfl ?_
        refine pe_get (j := 7) (ci := 12) (n := 0) (by decide +kernel) (by decide +kernel) (md_o hc) rfl ?_
        refine pe_iconstv (n := 3) (v := 3) (by decide +kernel) (by decide +kernel) ?_
        refine mz_ld148 (by decide +kernel) hc hI kz_3 (by omega) (by omega) (fun v22 ev22 pv22 => ?_)
        clear pv22
        refine pz_if_eq (off := 34) (t := 47) (by decide +kernel) (by decide) rfl rfl (fun h23 => ?_) (fun h23 => ?_)
        · skip
          refine pe_aload_n (j := 0) (by decide +kernel) rfl ?_
          refine pe_get (j := 7) (ci := 12) (n := 0) (by decide +kernel) (by decide +kernel) (md_o hc) rfl ?_
          refine pe_iconstv (n := 3) (v := 3) (by decide +kernel) (by decide +kernel) ?_
          refine pe_iload_n (j := 1) (by decide +kernel) rfl ?_
          refine mz_st148 (by decide +kernel) hc hI kz_3 (by omega) (by omega) (by rw [kz_2]; simp only [MT]; omega) (fun A24 eA24 hIA24 => ?_)
          refine pe_aload_n (j := 0) (by decide +kernel) rfl ?_
          refine pe_get (j := 7) (ci := 12) (n := 0) (by decide +kernel) (by decide +kernel) (md_o hc) rfl ?_
          refine pe_iconstv (n := 4) (v := 4) (by decide +kernel) (by decide +kernel) ?_
          refine pe_iload_n (j := 2) (by decide +kernel) rfl ?_
          refine mz_st148 (by decide +kernel) hc hIA24 kz_4 (by omega) (by omega) (by simp only [MT]; omega) (fun A25 eA25 hIA25 => ?_)
          refine pe_vret (by decide +kernel) rfl ⟨rfl, rfl, ?_⟩
          show pmE pg X pg_tyl pg_cl (d + 4) 212 25 [.ref 147, .int x1, pm_dead] [] (md wc f A25) _
          refine pe_aload_n (j := 0) (by decide +kernel) rfl ?_
          refine pe_iconstv (n := 0) (v := 0) (by decide +kernel) (by decide +kernel) ?_
          refine pe_bipushv (n := 8) (v := 8) (by decide +kernel) (by decide +kernel) ?_
          refine pz_callV (j := 130) (mj := 210) (by decide +kernel) (cll_V (args := [.int 8, .int 0]) (n := 2) (by decide +kernel) rfl rfl (md_o hc) (by decide +kernel) (Nat.le_of_ble_eq_true rfl) (Nat.le_of_ble_eq_true rfl)) (MM_210 hc hIA25) (fun q26a q26b q26c q26d hqq26 => ?_)
          obtain ⟨f27, A28, rq26, eq26, hIq26, hGq26, hFq26, kq26⟩ := hqq26
          cases eq26
          refine ⟨rfl, rfl, ?_⟩
          show pmE pg X pg_tyl pg_cl (d + 4) 212 32 [.ref 147, .int x1, pm_dead] [.int rq26] (md wc f27 A28) _
          refine pe_istore_n (j := 2) (ls' := [.ref 147, .int x1, .int rq26]) (by decide +kernel) (Nat.le_of_ble_eq_true rfl) rfl ?_
          refine pe_aload_n (j := 0) (by decide +kernel) rfl ?_
          refine pe_iload_n (j := 2) (by decide +kernel) rfl ?_
          refine pe_aload_n (j := 0) (by decide +kernel) rfl ?_
          refine pe_get (j := 134) (ci := 12) (n := 9) (by decide +kernel) (by decide +kernel) (md_o hc) rfl ?_
          refine pe_top (v := (f 9)) ((hGq26 9 (by decide) (by decide) (by decide) (by decide) (by decide) (by decide))) ?_
          refine pz_icmp_le (off := 7) (t := 46) (by decide +kernel) (by decide) rfl rfl rfl (fun h29 => ?_) (fun h29 => ?_)
          · skip
            refine pe_aload_n (j := 0) (by decide +kernel) rfl ?_
            refine pe_get (j := 134) (ci := 12) (n := 9) (by decide +kernel) (by decide +kernel) (md_o hc) rfl ?_
            refine pe_top (v := (f 9)) ((hGq26 9 (by decide) (by decide) (by decide) (by decide) (by decide) (by decide))) ?_
            refine mz_put9 (jj := 134) (by decide +kernel) (by decide +kernel) hc hIq26 (fun f30 ef30 hIf30 => ?_)
            refine pe_iload_n (j := 2) (by decide +kernel) rfl ?_
            exact pe_iret (by decide +kernel) rfl rfl ⟨f30, A28, rq26, rfl, hIf30, (fun k n3 n4 n5 n6 n7 n8 n9 => (upf_fr ef30 n9).trans ((hGq26 k n3 n4 n5 n6 n7 n8))), (fun k n148 => ((hFq26 k n148)).trans ((upa_fr eA25 n148).trans (upa_fr eA24 n148))), ⟨trivial, trivial⟩⟩
          · skip
            refine pe_iload_n (j := 2) (by decide +kernel) rfl ?_
            refine pe_goto (off := 7) (t := 50) (by decide +kernel) (by decide) rfl ?_
            refine mz_put9 (jj := 134) (by decide +kernel) (by decide +kernel) hc hIq26 (fun f31 ef31 hIf31 => ?_)
            refine pe_iload_n (j := 2) (by decide +kernel) rfl ?_
            exact pe_iret (by decide +kernel) rfl rfl ⟨f31, A28, rq26, rfl, hIf31, (fun k n3 n4 n5 n6 n7 n8 n9 => (upf_fr ef31 n9).trans ((hGq26 k n3 n4 n5 n6 n7 n8))), (fun k n148 => ((hFq26 k n148)).trans ((upa_fr eA25 n148).trans (upa_fr eA24 n148))), ⟨trivial, trivial⟩⟩
        · skip
          refine pe_aload_n (j := 0) (by decide +kernel) rfl ?_
          refine pe_get (j := 7) (ci := 12) (n := 0) (by decide +kernel) (by decide +kernel) (md_o hc) rfl ?_
          refine pe_iconstv (n := 4) (v := 4) (by decide +kernel) (by decide +kernel) ?_
          refine mz_ld148 (by decide +kernel) hc hI kz_4 (by omega) (by omega) (fun v32 ev32 pv32 => ?_)
          clear pv32
          refine pe_iload_n (j := 2) (by decide +kernel) rfl ?_
          refine pz_icmp_lt (off := 23) (t := 46) (by decide +kernel) (by decide) rfl rfl rfl (fun h33 => ?_) (fun h33 => ?_)
          · skip
            refine pe_vret (by decide +kernel) rfl ⟨rfl, rfl, ?_⟩
            show pmE pg X pg_tyl pg_cl (d + 4) 212 25 [.ref 147, .int x1, pm_dead] [] (md wc f A) _
            refine pe_aload_n (j := 0) (by decide +kernel) rfl ?_
            refine pe_iconstv (n := 0) (v := 0) (by decide +kernel) (by decide +kernel) ?_
            refine pe_bipushv (n := 8) (v := 8) (by decide +kernel) (by decide +kernel) ?_
            refine pz_callV (j := 130) (mj := 210) (by decide +kernel) (cll_V (args := [.int 8, .int 0]) (n := 2) (by decide +kernel) rfl rfl (md_o hc) (by decide +kernel) (Nat.le_of_ble_eq_true rfl) (Nat.le_of_ble_eq_true rfl)) (MM_210 hc hI) (fun q34a q34b q34c q34d hqq34 => ?_)
            obtain ⟨f35, A36, rq34, eq34, hIq34, hGq34, hFq34, kq34⟩ := hqq34
            cases eq34
            refine ⟨rfl, rfl, ?_⟩
            show pmE pg X pg_tyl pg_cl (d + 4) 212 32 [.ref 147, .int x1, pm_dead] [.int rq34] (md wc f35 A36) _
            refine pe_istore_n (j := 2) (ls' := [.ref 147, .int x1, .int rq34]) (by decide +kernel) (Nat.le_of_ble_eq_true rfl) rfl ?_
            refine pe_aload_n (j := 0) (by decide +kernel) rfl ?_
            refine pe_iload_n (j := 2) (by decide +kernel) rfl ?_
            refine pe_aload_n (j := 0) (by decide +kernel) rfl ?_
            refine pe_get (j := 134) (ci := 12) (n := 9) (by decide +kernel) (by decide +kernel) (md_o hc) rfl ?_
            refine pe_top (v := (f 9)) ((hGq34 9 (by decide) (by decide) (by decide) (by decide) (by decide) (by decide))) ?_
            refine pz_icmp_le (off := 7) (t := 46) (by decide +kernel) (by decide) rfl rfl rfl (fun h37 => ?_) (fun h37 => ?_)
            · skip
              refine pe_aload_n (j := 0) (by decide +kernel) rfl ?_
              refine pe_get (j := 134) (ci := 12) (n := 9) (by decide +kernel) (by decide +kernel) (md_o hc) rfl ?_
              refine pe_top (v := (f 9)) ((hGq34 9 (by decide) (by decide) (by decide) (by decide) (by decide) (by decide))) ?_
              refine mz_put9 (jj := 134) (by decide +kernel) (by decide +kernel) hc hIq34 (fun f38 ef38 hIf38 => ?_)
              refine pe_iload_n (j := 2) (by decide +kernel) rfl ?_
              exact pe_iret (by decide +kernel) rfl rfl ⟨f38, A36, rq34, rfl, hIf38, (fun k n3 n4 n5 n6 n7 n8 n9 => (upf_fr ef38 n9).trans ((hGq34 k n3 n4 n5 n6 n7 n8))), (fun k n148 => (hFq34 k n148)), ⟨trivial, trivial⟩⟩
            · skip
              refine pe_iload_n (j := 2) (by decide +kernel) rfl ?_
              refine pe_goto (off := 7) (t := 50) (by decide +kernel) (by decide) rfl ?_
              refine mz_put9 (jj := 134) (by decide +kernel) (by decide +kernel) hc hIq34 (fun f39 ef39 hIf39 => ?_)
              refine pe_iload_n (j := 2) (by decide +kernel) rfl ?_
              exact pe_iret (by decide +kernel) rfl rfl ⟨f39, A36, rq34, rfl, hIf39, (fun k n3 n4 n5 n6 n7 n8 n9 => (upf_fr ef39 n9).trans ((hGq34 k n3 n4 n5 n6 n7 n8))), (fun k n148 => (hFq34 k n148)), ⟨trivial, trivial⟩⟩
          · skip
            refine pe_aload_n (j := 0) (by decide +kernel) rfl ?_
            refine pe_get (j := 7) (ci := 12) (n := 0) (by decide +kernel) (by decide +kernel) (md_o hc) rfl ?_
            refine pe_iconstv (n := 4) (v := 4) (by decide +kernel) (by decide +kernel) ?_
            refine mz_ld148 (by decide +kernel) hc hI kz_4 (by omega) (by omega) (fun v40 ev40 pv40 => ?_)
            rw [ev40.trans ev32.symm]
            clear pv40 ev40 v40
            refine pe_iload_n (j := 2) (by decide +kernel) rfl ?_
            refine pz_icmp_ne (off := 14) (t := 47) (by decide +kernel) (by decide) rfl rfl rfl (fun h41 => ?_) (fun h41 => ?_)
            · skip
              refine pe_aload_n (j := 0) (by decide +kernel) rfl ?_
              refine pe_get (j := 7) (ci := 12) (n := 0) (by decide +kernel) (by decide +kernel) (md_o hc) rfl ?_
              refine pe_iconstv (n := 3) (v := 3) (by decide +kernel) (by decide +kernel) ?_
              refine pe_iload_n (j := 1) (by decide +kernel) rfl ?_
              refine mz_st148 (by decide +kernel) hc hI kz_3 (by omega) (by omega) (by rw [kz_2]; simp only [MT]; omega) (fun A42 eA42 hIA42 => ?_)
              refine pe_aload_n (j := 0) (by decide +kernel) rfl ?_
              refine pe_get (j := 7) (ci := 12) (n := 0) (by decide +kernel) (by decide +kernel) (md_o hc) rfl ?_
              refine pe_iconstv (n := 4) (v := 4) (by decide +kernel) (by decide +kernel) ?_
              refine pe_iload_n (j := 2) (by decide +kernel) rfl ?_
              refine mz_st148 (by decide +kernel) hc hIA42 kz_4 (by omega) (by omega) (by simp only [MT]; omega) (fun A43 eA43 hIA43 => ?_)
              refine pe_vret (by decide +kernel) rfl ⟨rfl, rfl, ?_⟩
              show pmE pg X pg_tyl pg_cl (d + 4) 212 25 [.ref 147, .int x1, pm_dead] [] (md wc f A43) _
              refine pe_aload_n (j := 0) (by decide +kernel) rfl ?_
              refine pe_iconstv (n := 0) (v := 0) (by decide +kernel) (by decide +kernel) ?_
              refine pe_bipushv (n := 8) (v := 8) (by decide +kernel) (by decide +kernel) ?_
              refine pz_callV (j := 130) (mj := 210) (by decide +kernel) (cll_V (args := [.int 8, .int 0]) (n := 2) (by decide +kernel) rfl rfl (md_o hc) (by decide +kernel) (Nat.le_of_ble_eq_true rfl) (Nat.le_of_ble_eq_true rfl)) (MM_210 hc hIA43) (fun q44a q44b q44c q44d hqq44 => ?_)
              obtain ⟨f45, A46, rq44, eq44, hIq44, hGq44, hFq44, kq44⟩ := hqq44
              cases eq44
              refine ⟨rfl, rfl, ?_⟩
              show pmE pg X pg_tyl pg_cl (d + 4) 212 32 [.ref 147, .int x1, pm_dead] [.int rq44] (md wc f45 A46) _
              refine pe_istore_n (j := 2) (ls' := [.ref 147, .int x1, .int rq44]) (by decide +kernel) (Nat.le_of_ble_eq_true rfl) rfl ?_
              refine pe_aload_n (j := 0) (by decide +kernel) rfl ?_
              refine pe_iload_n (j := 2) (by decide +kernel) rfl ?_
              refine pe_aload_n (j := 0) (by decide +kernel) rfl ?_
              refine pe_get (j := 134) (ci := 12) (n := 9) (by decide +kernel) (by decide +kernel) (md_o hc) rfl ?_
              refine pe_top (v := (f 9)) ((hGq44 9 (by decide) (by decide) (by decide) (by decide) (by decide) (by decide))) ?_
              refine pz_icmp_le (off := 7) (t := 46) (by decide +kernel) (by decide) rfl rfl rfl (fun h47 => ?_) (fun h47 => ?_)
              · skip
                refine pe_aload_n (j := 0) (by decide +kernel) rfl ?_
                refine pe_get (j := 134) (ci := 12) (n := 9) (by decide +kernel) (by decide +kernel) (md_o hc) rfl ?_
                refine pe_top (v := (f 9)) ((hGq44 9 (by decide) (by decide) (by decide) (by decide) (by decide) (by decide))) ?_
                refine mz_put9 (jj := 134) (by decide +kernel) (by decide +kernel) hc hIq44 (fun f48 ef48 hIf48 => ?_)
                refine pe_iload_n (j := 2) (by decide +kernel) rfl ?_
                exact pe_iret (by decide +kernel) rfl rfl ⟨f48, A46, rq44, rfl, hIf48, (fun k n3 n4 n5 n6 n7 n8 n9 => (upf_fr ef48 n9).trans ((hGq44 k n3 n4 n5 n6 n7 n8))), (fun k n148 => ((hFq44 k n148)).trans ((upa_fr eA43 n148).trans (upa_fr eA42 n148))), ⟨trivial, trivial⟩⟩
              · skip
                refine pe_iload_n (j := 2) (by decide +kernel) rfl ?_
                refine pe_goto (off := 7) (t := 50) (by decide +kernel) (by decide) rfl ?_
                refine mz_put9 (jj := 134) (by decide +kernel) (by decide +kernel) hc hIq44 (fun f49 ef49 hIf49 => ?_)
                refine pe_iload_n (j := 2) (by decide +kernel) rfl ?_
                exact pe_iret (by decide +kernel) rfl rfl ⟨f49, A46, rq44, rfl, hIf49, (fun k n3 n4 n5 n6 n7 n8 n9 => (upf_fr ef49 n9).trans ((hGq44 k n3 n4 n5 n6 n7 n8))), (fun k n148 => ((hFq44 k n148)).trans ((upa_fr eA43 n148).trans (upa_fr eA42 n148))), ⟨trivial, trivial⟩⟩
            · skip
              refine pe_aload_n (j := 0) (by decide +kernel) rfl ?_
              refine pe_get (j := 7) (ci := 12) (n := 0) (by decide +kernel) (by decide +kernel) (md_o hc) rfl ?_
              refine pe_iconstv (n := 3) (v := 3) (by decide +kernel) (by decide +kernel) ?_
              refine mz_ld148 (by decide +kernel) hc hI kz_3 (by omega) (by omega) (fun v50 ev50 pv50 => ?_)
              rw [ev50.trans ev22.symm]
              clear pv50 ev50 v50
              refine pe_iload_n (j := 1) (by decide +kernel) rfl ?_
              refine pz_icmp_gt (off := 4) (t := 47) (by decide +kernel) (by decide) rfl rfl kz_2 (fun h51 => ?_) (fun h51 => ?_)
              · skip
                refine pe_aload_n (j := 0) (by decide +kernel) rfl ?_
                refine pe_get (j := 7) (ci := 12) (n := 0) (by decide +kernel) (by decide +kernel) (md_o hc) rfl ?_
                refine pe_iconstv (n := 3) (v := 3) (by decide +kernel) (by decide +kernel) ?_
                refine pe_iload_n (j := 1) (by decide +kernel) rfl ?_
                refine mz_st148 (by decide +kernel) hc hI kz_3 (by omega) (by omega) (by rw [kz_2]; simp only [MT]; omega) (fun A52 eA52 hIA52 => ?_)
                refine pe_aload_n (j := 0) (by decide +kernel) rfl ?_
                refine pe_get (j := 7) (ci := 12) (n := 0) (by decide +kernel) (by decide +kernel) (md_o hc) rfl ?_
                refine pe_iconstv (n := 4) (v := 4) (by decide +kernel) (by decide +kernel) ?_
                refine pe_iload_n (j := 2) (by decide +kernel) rfl ?_
                refine mz_st148 (by decide +kernel) hc hIA52 kz_4 (by omega) (by omega) (by simp only [MT]; omega) (fun A53 eA53 hIA53 => ?_)
                refine pe_vret (by decide +kernel) rfl ⟨rfl, rfl, ?_⟩
                show pmE pg X pg_tyl pg_cl (d + 4) 212 25 [.ref 147, .int x1, pm_dead] [] (md wc f A53) _
                refine pe_aload_n (j := 0) (by decide +kernel) rfl ?_
                refine pe_iconstv (n := 0) (v := 0) (by decide +kernel) (by decide +kernel) ?_
                refine pe_bipushv (n := 8) (v := 8) (by decide +kernel) (by decide +kernel) ?_
                refine pz_callV (j := 130) (mj := 210) (by decide +kernel) (cll_V (args := [.int 8, .int 0]) (n := 2) (by decide +kernel) rfl rfl (md_o hc) (by decide +kernel) (Nat.le_of_ble_eq_true rfl) (Nat.le_of_ble_eq_true rfl)) (MM_210 hc hIA53) (fun q54a q54b q54c q54d hqq54 => ?_)
                obtain ⟨f55, A56, rq54, eq54, hIq54, hGq54, hFq54, kq54⟩ := hqq54
                cases eq54
                refine ⟨rfl, rfl, ?_⟩
                show pmE pg X pg_tyl pg_cl (d + 4) 212 32 [.ref 147, .int x1, pm_dead] [.int rq54] (md wc f55 A56) _
                refine pe_istore_n (j := 2) (ls' := [.ref 147, .int x1, .int rq54]) (by decide +kernel) (Nat.le_of_ble_eq_true rfl) rfl ?_
                refine pe_aload_n (j := 0) (by decide +kernel) rfl ?_
                refine pe_iload_n (j := 2) (by decide +kernel) rfl ?_
                refine pe_aload_n (j := 0) (by decide +kernel) rfl ?_
                refine pe_get (j := 134) (ci := 12) (n := 9) (by decide +kernel) (by decide +kernel) (md_o hc) rfl ?_
                refine pe_top (v := (f 9)) ((hGq54 9 (by decide) (by decide) (by decide) (by decide) (by decide) (by decide))) ?_
                refine pz_icmp_le (off := 7) (t := 46) (by decide +kernel) (by decide) rfl rfl rfl (fun h57 => ?_) (fun h57 => ?_)
                · skip
                  refine pe_aload_n (j := 0) (by decide +kernel) rfl ?_
                  refine pe_get (j := 134) (ci := 12) (n := 9) (by decide +kernel) (by decide +kernel) (md_o hc) rfl ?_
                  refine pe_top (v := (f 9)) ((hGq54 9 (by decide) (by decide) (by decide) (by decide) (by decide) (by decide))) ?_
                  refine mz_put9 (jj := 134) (by decide +kernel) (by decide +kernel) hc hIq54 (fun f58 ef58 hIf58 => ?_)
                  refine pe_iload_n (j := 2) (by decide +kernel) rfl ?_
                  exact pe_iret (by decide +kernel) rfl rfl ⟨f58, A56, rq54, rfl, hIf58, (fun k n3 n4 n5 n6 n7 n8 n9 => (upf_fr ef58 n9).trans ((hGq54 k n3 n4 n5 n6 n7 n8))), (fun k n148 => ((hFq54 k n148)).trans ((upa_fr eA53 n148).trans (upa_fr eA52 n148))), ⟨trivial, trivial⟩⟩
                · skip
                  refine pe_iload_n (j := 2) (by decide +kernel) rfl ?_
                  refine pe_goto (off := 7) (t := 50) (by decide +kernel) (by decide) rfl ?_
                  refine mz_put9 (jj := 134) (by decide +kernel) (by decide +kernel) hc hIq54 (fun f59 ef59 hIf59 => ?_)
                  refine pe_iload_n (j := 2) (by decide +kernel) rfl ?_
                  exact pe_iret (by decide +kernel) rfl rfl ⟨f59, A56, rq54, rfl, hIf59, (fun k n3 n4 n5 n6 n7 n8 n9 => (upf_fr ef59 n9).trans ((hGq54 k n3 n4 n5 n6 n7 n8))), (fun k n148 => ((hFq54 k n148)).trans ((upa_fr eA53 n148).trans (upa_fr eA52 n148))), ⟨trivial, trivial⟩⟩
              · skip
                refine pe_vret (by decide +kernel) rfl ⟨rfl, rfl, ?_⟩
                show pmE pg X pg_tyl pg_cl (d + 4) 212 25 [.ref 147, .int x1, pm_dead] [] (md wc f A) _
                refine pe_aload_n (j := 0) (by decide +kernel) rfl ?_
                refine pe_iconstv (n := 0) (v := 0) (by decide +kernel) (by decide +kernel) ?_
                refine pe_bipushv (n := 8) (v := 8) (by decide +kernel) (by decide +kernel) ?_
                refine pz_callV (j := 130) (mj := 210) (by decide +kernel) (cll_V (args := [.int 8, .int 0]) (n := 2) (by decide +kernel) rfl rfl (md_o hc) (by decide +kernel) (Nat.le_of_ble_eq_true rfl) (Nat.le_of_ble_eq_true rfl)) (MM_210 hc hI) (fun q60a q60b q60c q60d hqq60 => ?_)
                obtain ⟨f61, A62, rq60, eq60, hIq60, hGq60, hFq60, kq60⟩ := hqq60
                cases eq60
                refine ⟨rfl, rfl, ?_⟩
                show pmE pg X pg_tyl pg_cl (d + 4) 212 32 [.ref 147, .int x1, pm_dead] [.int rq60] (md wc f61 A62) _
                refine pe_istore_n (j := 2) (ls' := [.ref 147, .int x1, .int rq60]) (by decide +kernel) (Nat.le_of_ble_eq_true rfl) rfl ?_
                refine pe_aload_n (j := 0) (by decide +kernel) rfl ?_
                refine pe_iload_n (j := 2) (by decide +kernel) rfl ?_
                refine pe_aload_n (j := 0) (by decide +kernel) rfl ?_
                refine pe_get (j := 134) (ci := 12) (n := 9) (by decide +kernel) (by decide +kernel) (md_o hc) rfl ?_
                refine pe_top (v := (f 9)) ((hGq60 9 (by decide) (by decide) (by decide) (by decide) (by decide) (by decide))) ?_
                refine pz_icmp_le (off := 7) (t := 46) (by decide +kernel) (by decide) rfl rfl rfl (fun h63 => ?_) (fun h63 => ?_)
                · skip
                  refine pe_aload_n (j := 0) (by decide +kernel) rfl ?_
                  refine pe_get (j := 134) (ci := 12) (n := 9) (by decide +kernel) (by decide +kernel) (md_o hc) rfl ?_
                  refine pe_top (v := (f 9)) ((hGq60 9 (by decide) (by decide) (by decide) (by decide) (by decide) (by decide))) ?_
                  refine mz_put9 (jj := 134) (by decide +kernel) (by decide +kernel) hc hIq60 (fun f64 ef64 hIf64 => ?_)
                  refine pe_iload_n (j := 2) (by decide +kernel) rfl ?_
                  exact pe_iret (by decide +kernel) rfl rfl ⟨f64, A62, rq60, rfl, hIf64, (fun k n3 n4 n5 n6 n7 n8 n9 => (upf_fr ef64 n9).trans ((hGq60 k n3 n4 n5 n6 n7 n8))), (fun k n148 => (hFq60 k n148)), ⟨trivial, trivial⟩⟩
                · skip
                  refine pe_iload_n (j := 2) (by decide +kernel) rfl ?_
                  refine pe_goto (off := 7) (t := 50) (by decide +kernel) (by decide) rfl ?_
                  refine mz_put9 (jj := 134) (by decide +kernel) (by decide +kernel) hc hIq60 (fun f65 ef65 hIf65 => ?_)
                  refine pe_iload_n (j := 2) (by decide +kernel) rfl ?_
                  exact pe_iret (by decide +kernel) rfl rfl ⟨f65, A62, rq60, rfl, hIf65, (fun k n3 n4 n5 n6 n7 n8 n9 => (upf_fr ef65 n9).trans ((hGq60 k n3 n4 n5 n6 n7 n8))), (fun k n148 => (hFq60 k n148)), ⟨trivial, trivial⟩⟩
set_option maxRecDepth 100000 in
set_option maxHeartbeats 8000000 in
theorem ML_268_46 {X : pm_X} {d : Nat} {wc : pm_W} {Q : pm_R → Prop} {f : Nat → Int32} {A : Nat → List Int32} {x1 x2 x3 x4 x5 : Int32} (hc : wc.length = 147) (hI : MI f A) (gx1 : (610 ≤ x1.toInt ∧ x1.toInt ≤ 742 ∧ (x1.toInt - 610) % 132 = 0)) (gx2 : (1 ≤ x2.toInt ∧ x2.toInt ≤ 2)) (gx3 : (2 ≤ x3.toInt ∧ x3.toInt ≤ 6)) (gx4 : (0 ≤ x4.toInt)) (gx5 : (0 ≤ x5.toInt)) (k_105_0 : ∀ (y6 : Int32) (y7 : Int32), (2 ≤ y7.toInt ∧ y7.toInt ≤ 6) → x3.toInt ≤ y7.toInt → (∀ j : Int, (0) ≤ j → j < (y7.toInt) → 0 ≤ ((A 158).getD j.toNat 0).toInt ∧ ((A 158).getD j.toNat 0).toInt ≤ 8) → pmE pg X pg_tyl pg_cl (d + 2) 268 105 [.ref 147, .int x1, .int x2, .int x3, .int x4, .int x5, .int y6, .int y7] [] (md wc f A) Q) (kr_0 : Q (some (.int 0), md wc f A, 0, 0)) : ∀ (m : Nat) (x6 : Int32) (x7 : Int32), (0 ≤ x7.toInt ∧ x7.toInt ≤ 6) → (∀ j : Int, (0) ≤ j → j < (x7.toInt) → 0 ≤ ((A 158).getD j.toNat 0).toInt ∧ ((A 158).getD j.toNat 0).toInt ≤ 8) → 6 - x7.toInt < (m : Int) → pmE pg X pg_tyl pg_cl (d + 2) 268 46 [.ref 147, .int x1, .int x2, .int x3, .int x4, .int x5, .int x6, .int x7] [] (md wc f A) Q := by
  intro m
  induction m with
  | zero =>
    intro x6 x7 gx7 hv0 hm
    exfalso
    have l0 := zi_lo x7
    have u0 := zi_hi x7
    omega
  | succ m ih =>
    intro x6 x7 gx7 hv0 hm
    refine pe_iload (j := 7) (by decide +kernel) rfl ?_
    refine pe_iload_n (j := 3) (by decide +kernel) rfl ?_
    refine pz_icmp_ge (off := 56) (t := 105) (by decide +kernel) (by decide) rfl rfl rfl (fun h1 => ?_) (fun h1 => ?_)
    · skip
      have hq2 : (∀ j : Int, (0) ≤ j → j < (x7.toInt) → 0 ≤ ((A 158).getD j.toNat 0).toInt ∧ ((A 158).getD j.toNat 0).toInt ≤ 8) := by
        intro j h1 h2
        first
        | (exfalso; omega)
        | exact hv0 j (by omega) (by omega)
      exact k_105_0 x6 x7 (by omega) (by omega) hq2
    · skip
      refine pe_aload_n (j := 0) (by decide +kernel) rfl ?_
      refine pe_iload_n (j := 1) (by decide +kernel) rfl ?_
      refine pe_aload_n (j := 0) (by decide +kernel) rfl ?_
      refine pe_get (j := 41) (ci := 12) (n := 21) (by decide +kernel) (by decide +kernel) (md_o hc) rfl ?_
      refine pe_iload (j := 7) (by decide +kernel) rfl ?_
      refine mz_ld158 (by decide +kernel) hc hI rfl (by omega) (by omega) (fun v3 ev3 pv3 => ?_)
      have rv3 : 0 ≤ v3.toInt ∧ v3.toInt ≤ 9 := by have p := pv3; simp only [MP_round] at p; omega
      clear pv3
      refine pi_V (j := 166) (mj := 221) (by decide +kernel) (cll_V (args := [.int v3, .int x1]) (n := 2) (by decide +kernel) rfl rfl (md_o hc) (by decide +kernel) (Nat.le_of_ble_eq_true rfl) (Nat.le_of_ble_eq_true rfl)) ?_
      show pmE pg X pg_tyl pg_cl (d + 1) 221 0 [.ref 147, .int x1, .int v3] [] (md wc f A) _
      refine pe_iload_n (j := 2) (by decide +kernel) rfl ?_
      refine pe_iconstv (n := 0) (v := 0) (by decide +kernel) (by decide +kernel) ?_
      refine pe_aload_n (j := 0) (by decide +kernel) rfl ?_
      refine pe_get (j := 7) (ci := 12) (n := 0) (by decide +kernel) (by decide +kernel) (md_o hc) rfl ?_
      refine pe_iload_n (j := 1) (by decide +kernel) rfl ?_
      refine mz_ld148 (by decide +kernel) hc hI rfl (by omega) (by omega) (fun v4 ev4 pv4 => ?_)
      have rv4 : 0 ≤ v4.toInt ∧ v4.toInt ≤ 9 := MT_people pv4 (by omega)
      clear pv4
      refine pe_iconstv (n := 1) (v := 1) (by decide +kernel) (by decide +kernel) ?_
      refine pz_sub (by decide +kernel) rfl kz_1 (by omega) (by omega) (fun z5 hz5 => ?_)
      refine pi_S (j := 119) (mj := 199) (by decide +kernel) (by decide +kernel) rfl ?_
      show pmE pg X pg_tyl pg_cl (d) 199 0 [.int v3, .int 0, .int z5] [] (md wc f A) _
      refine pe_iload_n (j := 0) (by decide +kernel) rfl ?_
      refine pe_iload_n (j := 1) (by decide +kernel) rfl ?_
      refine pz_icmp_lt (off := 12) (t := 14) (by decide +kernel) (by decide) rfl rfl kz_0 (fun h6 => by omega) (fun h6 => ?_)
      refine pe_iload_n (j := 0) (by decide +kernel) rfl ?_
      refine pe_iload_n (j := 2) (by decide +kernel) rfl ?_
      refine pz_icmp_gt (off := 7) (t := 14) (by decide +kernel) (by decide) rfl rfl hz5 (fun h7 => ?_) (fun h7 => ?_)
      · skip
        refine pe_iconstv (n := 0) (v := 0) (by decide +kernel) (by decide +kernel) ?_
        refine pe_iret (by decide +kernel) rfl rfl ⟨rfl, rfl, ?_⟩
        show pmE pg X pg_tyl pg_cl (d + 1) 221 13 [.ref 147, .int x1, .int v3] [.int 0] (md wc f A) _
        refine pe_iret (by decide +kernel) rfl rfl ⟨rfl, rfl, ?_⟩
        show pmE pg X pg_tyl pg_cl (d + 2) 268 64 [.ref 147, .int x1, .int x2, .int x3, .int x4, .int x5, .int x6, .int x7] [.int 0] (md wc f A) _
        refine pz_if_eq (off := 19) (t := 83) (by decide +kernel) (by decide) rfl kz_0 (fun h8 => ?_) (fun h8 => by omega)
        refine pe_iconstv (n := 0) (v := 0) (by decide +kernel) (by decide +kernel) ?_
        exact pe_iret (by decide +kernel) rfl rfl kr_0
      · skip
        refine pe_iconstv (n := 1) (v := 1) (by decide +kernel) (by decide +kernel) ?_
        refine pe_goto (off := 4) (t := 15) (by decide +kernel) (by decide) rfl ?_
        refine pe_iret (by decide +kernel) rfl rfl ⟨rfl, rfl, ?_⟩
        show pmE pg X pg_tyl pg_cl (d + 1) 221 13 [.ref 147, .int x1, .int v3] [.int 1] (md wc f A) _
        refine pe_iret (by decide +kernel) rfl rfl ⟨rfl, rfl, ?_⟩
        show pmE pg X pg_tyl pg_cl (d + 2) 268 64 [.ref 147, .int x1, .int x2, .int x3, .int x4, .int x5, .int x6, .int x7] [.int 1] (md wc f A) _
        refine pz_if_eq (off := 19) (t := 83) (by decide +kernel) (by decide) rfl kz_1 (fun h9 => by omega) (fun h9 => ?_)
        refine pe_iload (j := 6) (by decide +kernel) rfl ?_
        refine pe_aload_n (j := 0) (by decide +kernel) rfl ?_
        refine pe_get (j := 41) (ci := 12) (n := 21) (by decide +kernel) (by decide +kernel) (md_o hc) rfl ?_
        refine pe_iload (j := 7) (by decide +kernel) rfl ?_
        refine mz_ld158 (by decide +kernel) hc hI rfl (by omega) (by omega) (fun v10 ev10 pv10 => ?_)
        rw [ev10.trans ev3.symm]
        clear pv10 ev10 v10
        refine pw_shr (by decide +kernel) (fun z11 => ?_)
        refine pe_iconstv (n := 1) (v := 1) (by decide +kernel) (by decide +kernel) ?_
        refine pz_and1 (by decide +kernel) (fun z12 hz12 => ?_)
        refine pe_iconstv (n := 1) (v := 1) (by decide +kernel) (by decide +kernel) ?_
        refine pz_icmp_ne (off := 5) (t := 85) (by decide +kernel) (by decide) rfl rfl kz_1 (fun h13 => ?_) (fun h13 => ?_)
        · skip
          refine pe_iload (j := 6) (by decide +kernel) rfl ?_
          refine pe_iconstv (n := 1) (v := 1) (by decide +kernel) (by decide +kernel) ?_
          refine pe_aload_n (j := 0) (by decide +kernel) rfl ?_
          refine pe_get (j := 41) (ci := 12) (n := 21) (by decide +kernel) (by decide +kernel) (md_o hc) rfl ?_
          refine pe_iload (j := 7) (by decide +kernel) rfl ?_
          refine mz_ld158 (by decide +kernel) hc hI rfl (by omega) (by omega) (fun v14 ev14 pv14 => ?_)
          rw [ev14.trans ev3.symm]
          clear pv14 ev14 v14
          refine pw_shl (by decide +kernel) (fun z15 => ?_)
          refine pw_or (by decide +kernel) (fun z16 => ?_)
          refine pe_istore (j := 6) (ls' := [.ref 147, .int x1, .int x2, .int x3, .int x4, .int x5, .int z16, .int x7]) (by decide +kernel) (Nat.le_of_ble_eq_true rfl) rfl ?_
          refine pz_iinc (j := 7) (n := 1) (by decide +kernel) rfl rfl (by decide +kernel) (by omega) (by omega) (fun z17 hz17 => ?_)
          show pmE pg X pg_tyl pg_cl (d + 2) 268 102 [.ref 147, .int x1, .int x2, .int x3, .int x4, .int x5, .int z16, .int z17] [] (md wc f A) _
          refine pe_goto (off := (-56)) (t := 46) (by decide +kernel) (by decide) rfl ?_
          have hq18 : (∀ j : Int, (0) ≤ j → j < (z17.toInt) → 0 ≤ ((A 158).getD j.toNat 0).toInt ∧ ((A 158).getD j.toNat 0).toInt ≤ 8) := by
            intro j h1 h2
            first
            | (exfalso; omega)
            | exact hv0 j (by omega) (by omega)
            | (by_cases e : (0) ≤ j ∧ j < (x7.toInt)
               · exact hv0 j e.1 e.2
               · have e3 : j.toNat = (x7.toInt).toNat := by omega
                 rw [e3, ← ev3]; omega)
          exact ih z16 z17 (by omega) hq18 (by omega)
        · skip
          refine pe_iconstv (n := 0) (v := 0) (by decide +kernel) (by decide +kernel) ?_
          exact pe_iret (by decide +kernel) rfl rfl kr_0
set_option maxRecDepth 100000 in
set_option maxHeartbeats 8000000 in
theorem ML_268_9 {X : pm_X} {d : Nat} {wc : pm_W} {Q : pm_R → Prop} {f : Nat → Int32} {A0 : Nat → List Int32} {x1 x2 x3 x4 : Int32} (hc : wc.length = 147) (gx1 : (610 ≤ x1.toInt ∧ x1.toInt ≤ 742 ∧ (x1.toInt - 610) % 132 = 0)) (gx2 : (1 ≤ x2.toInt ∧ x2.toInt ≤ 2)) (gx3 : (2 ≤ x3.toInt ∧ x3.toInt ≤ 6)) (gx4 : (0 ≤ x4.toInt)) (k_40_0 : ∀ (A' : Nat → List Int32) (y5 : Int32) (y6 : Int32), MI f A' → (∀ k : Nat, k ≠ 158 → A' k = A0 k) → (0 ≤ y5.toInt) → (0 ≤ y6.toInt ∧ y6.toInt ≤ 1) → pmE pg X pg_tyl pg_cl (d + 2) 268 40 [.ref 147, .int x1, .int x2, .int x3, .int x4, .int y5, .int y6, pm_dead] [] (md wc f A') Q) : ∀ (m : Nat) (A : Nat → List Int32) (x5 : Int32) (x6 : Int32), MI f A → (∀ k : Nat, k ≠ 158 → A k = A0 k) → (0 ≤ x5.toInt) → (0 ≤ x6.toInt ∧ x6.toInt ≤ 5) → x6.toInt - 0 < (m : Int) → pmE pg X pg_tyl pg_cl (d + 2) 268 9 [.ref 147, .int x1, .int x2, .int x3, .int x4, .int x5, .int x6, pm_dead] [] (md wc f A) Q := by
  intro m
  induction m with
  | zero =>
    intro A x5 x6 hI hF gx5 gx6 hm
    exfalso
    have l0 := zi_lo x6
    have u0 := zi_hi x6
    omega
  | succ m ih =>
    intro A x5 x6 hI hF gx5 gx6 hm
    refine pe_iload (j := 6) (by decide +kernel) rfl ?_
    refine pe_iload_n (j := 2) (by decide +kernel) rfl ?_
    refine pz_icmp_lt (off := 28) (t := 40) (by decide +kernel) (by decide) rfl rfl rfl (fun h1 => ?_) (fun h1 => ?_)
    · skip
      exact k_40_0 A x5 x6 hI (fun k n158 => (hF k n158)) (by omega) (by omega)
    · skip
      refine pe_aload_n (j := 0) (by decide +kernel) rfl ?_
      refine pe_get (j := 41) (ci := 12) (n := 21) (by decide +kernel) (by decide +kernel) (md_o hc) rfl ?_
      refine pe_iload (j := 6) (by decide +kernel) rfl ?_
      refine pe_iload (j := 5) (by decide +kernel) rfl ?_
      refine pe_bipushv (n := 9) (v := 9) (by decide +kernel) (by decide +kernel) ?_
      refine pz_rem (by decide +kernel) rfl kz_9 (by omega) (by omega) (fun z2 hz2 gz2 kz2 => ?_)
      refine mz_st158 (by decide +kernel) hc hI rfl (by omega) (by omega) (by simp only [MP_round]; omega) (fun A3 eA3 hIA3 => ?_)
      refine pe_iload (j := 5) (by decide +kernel) rfl ?_
      refine pe_bipushv (n := 9) (v := 9) (by decide +kernel) (by decide +kernel) ?_
      refine pz_div (by decide +kernel) rfl kz_9 (by omega) (by omega) (fun z4 hz4 => ?_)
      refine pe_istore (j := 5) (ls' := [.ref 147, .int x1, .int x2, .int x3, .int x4, .int z4, .int x6, pm_dead]) (by decide +kernel) (Nat.le_of_ble_eq_true rfl) rfl ?_
      refine pz_iinc (j := 6) (n := (-1)) (by decide +kernel) rfl rfl (by decide +kernel) (by omega) (by omega) (fun z5 hz5 => ?_)
      show pmE pg X pg_tyl pg_cl (d + 2) 268 37 [.ref 147, .int x1, .int x2, .int x3, .int x4, .int z4, .int z5, pm_dead] [] (md wc f A3) _
      refine pe_goto (off := (-28)) (t := 9) (by decide +kernel) (by decide) rfl ?_
      exact ih A3 z4 z5 hIA3 (fun k n158 => (upa_fr eA3 n158).trans ((hF k n158))) (by omega) (by omega) (by omega)
set_option maxRecDepth 100000 in
set_option maxHeartbeats 8000000 in
theorem MM_268 {X : pm_X} {d : Nat} {wc : pm_W} {f : Nat → Int32} {A : Nat → List Int32} {x1 x2 x3 x4 : Int32} (hc : wc.length = 147) (hI : MI f A) (gx1 : (610 ≤ x1.toInt ∧ x1.toInt ≤ 742 ∧ (x1.toInt - 610) % 132 = 0)) (gx2 : (1 ≤ x2.toInt ∧ x2.toInt ≤ 2)) (gx3 : (2 ≤ x3.toInt ∧ x3.toInt ≤ 6)) (gx4 : (0 ≤ x4.toInt)) : pmE pg X pg_tyl pg_cl (d + 2) 268 0 (pm_ent (pm_max pg 268) [.ref 147, .int x1, .int x2, .int x3, .int x4]) [] (md wc f A) (fun q => ∃ (A' : Nat → List Int32) (r : Int32), q = (some (.int r), md wc f A', 0, 0) ∧ MI f A' ∧ (∀ k : Nat, k ≠ 158 → A' k = A k) ∧ ((r = 0 ∧ True) ∨ (r = 1 ∧ (∀ j : Int, (0) ≤ j → j < (x3.toInt) → 0 ≤ ((A' 158).getD j.toNat 0).toInt ∧ ((A' 158).getD j.toNat 0).toInt ≤ 8) ∧ True))) := by
  show pmE pg X pg_tyl pg_cl (d + 2) 268 0 [.ref 147, .int x1, .int x2, .int x3, .int x4, pm_dead, pm_dead, pm_dead] [] (md wc f A) _
  refine pe_iload (j := 4) (by decide +kernel) rfl ?_
  refine pe_istore (j := 5) (ls' := [.ref 147, .int x1, .int x2, .int x3, .int x4, .int x4, pm_dead, pm_dead]) (by decide +kernel) (Nat.le_of_ble_eq_true rfl) rfl ?_
  refine pe_iload_n (j := 3) (by decide +kernel) rfl ?_
  refine pe_iconstv (n := 1) (v := 1) (by decide +kernel) (by decide +kernel) ?_
  refine pz_sub (by decide +kernel) rfl kz_1 (by omega) (by omega) (fun z1 hz1 => ?_)
  refine pe_istore (j := 6) (ls' := [.ref 147, .int x1, .int x2, .int x3, .int x4, .int x4, .int z1, pm_dead]) (by decide +kernel) (Nat.le_of_ble_eq_true rfl) rfl ?_
  refine ML_268_9 hc (by omega) (by omega) (by omega) (by omega) (fun A2 y4 y5 hIy3 hFhIy3 gy4 gy5 => ?_) 6 A x4 z1 hI (fun k _ => rfl) (by omega) (by omega) (by have l0 := zi_lo z1; have u0 := zi_hi z1; omega)
  refine pe_iconstv (n := 0) (v := 0) (by decide +kernel) (by decide +kernel) ?_
  refine pe_istore (j := 6) (ls' := [.ref 147, .int x1, .int x2, .int x3, .int x4, .int y4, .int 0, pm_dead]) (by decide +kernel) (Nat.le_of_ble_eq_true rfl) rfl ?_
  refine pe_iconstv (n := 0) (v := 0) (by decide +kernel) (by decide +kernel) ?_
  refine pe_istore (j := 7) (ls' := [.ref 147, .int x1, .int x2, .int x3, .int x4, .int y4, .int 0, .int 0]) (by decide +kernel) (Nat.le_of_ble_eq_true rfl) rfl ?_
  have hq10 : (∀ j : Int, (0) ≤ j → j < ((0 : Int32).toInt) → 0 ≤ ((A2 158).getD j.toNat 0).toInt ∧ ((A2 158).getD j.toNat 0).toInt ≤ 8) := by
    intro j h1 h2
    have hl_x7 := kz_0
    first
    | (exfalso; omega)
  refine ML_268_46 hc hIy3 (by omega) (by omega) (by omega) (by omega) (by omega) (fun y6 y7 gy7 hr8 hq9 => ?_) (⟨A2, 0, rfl, hIy3, (fun k n158 => (hFhIy3 k n158)), Or.inl ⟨rfl, trivial⟩⟩) 7 0 0 (by decide +kernel) hq10 (by decide +kernel)
  refine pe_iconstv (n := 1) (v := 1) (by decide +kernel) (by decide +kernel) ?_
  have hqr0 : (∀ j : Int, (0) ≤ j → j < (x3.toInt) → 0 ≤ ((A2 158).getD j.toNat 0).toInt ∧ ((A2 158).getD j.toNat 0).toInt ≤ 8) := by
    intro j h1 h2
    first
    | (exfalso; omega)
    | exact hq9 j (by omega) (by omega)
  exact pe_iret (by decide +kernel) rfl rfl ⟨A2, 1, rfl, hIy3, (fun k n158 => (hFhIy3 k n158)), Or.inr (⟨rfl, hqr0, trivial⟩)⟩
