set_option maxRecDepth 100000 in
set_option maxHeartbeats 8000000 in
theorem MM_212 {X : pm_X} {d : Nat} {wc : pm_W} {f : Nat → Int32} {A : Nat → List Int32} {x1 : Int32} (hc : wc.length = 147) (hI : MI f A) : pmE pg X pg_tyl pg_cl (d + 4) 212 0 (pm_ent (pm_max pg 212) [.ref 147, .int x1]) [] (md wc f A) (fun q => ∃ (f' : Nat → Int32) (A' : Nat → List Int32) (r : Int32), q = (some (.int r), md wc f' A', 0, 0) ∧ MI f' A' ∧ (∀ k : Nat, k ≠ 3 → k ≠ 4 → k ≠ 5 → k ≠ 6 → k ≠ 7 → k ≠ 8 → k ≠ 9 → f' k = f k) ∧ (∀ k : Nat, k ≠ 148 → A' k = A k) ∧ ((-5) * (f' 3).toInt + (f' 5).toInt + (-5000) * (f' 8).toInt + 5 * (f 3).toInt + (-1) * (f 5).toInt + 4999 * (f 8).toInt + 1) ≤ 0 ∧ (((0 ≤ r.toInt ∧ r.toInt ≤ 8) ∧ True))) := by
  show pmE pg X pg_tyl pg_cl (d + 4) 212 0 [.ref 147, .int x1, pm_dead] [] (md wc f A) _
  refine pe_aload_n (j := 0) (by decide +kernel) rfl ?_
  refine pe_get (j := 93) (ci := 12) (n := 5) (by decide +kernel) (by decide +kernel) (md_o hc) rfl ?_
  have hr_5_f := hI.1 5
  simp only [MF] at hr_5_f
  refine pe_iconstv (n := 1) (v := 1) (by decide +kernel) (by decide +kernel) ?_
  refine pz_icmp_ne (off := 20) (t := 25) (by decide +kernel) (by decide) rfl rfl kz_1 (fun h1 => ?_) (fun h1 => ?_)
  · skip
    refine pe_aload_n (j := 0) (by decide +kernel) rfl ?_
    refine pe_iconstv (n := 0) (v := 0) (by decide +kernel) (by decide +kernel) ?_
    refine pe_bipushv (n := 8) (v := 8) (by decide +kernel) (by decide +kernel) ?_
    have hl2 := kz_0
    have hl3 := kz_8
    have hr_3_f := hI.1 3
    simp only [MF] at hr_3_f
    have hr_8_f := hI.1 8
    simp only [MF] at hr_8_f
    refine pz_callV (j := 130) (mj := 210) (by decide +kernel) (cll_V (args := [.int 8, .int 0]) (n := 2) (by decide +kernel) rfl rfl (md_o hc) (by decide +kernel) (Nat.le_of_ble_eq_true rfl) (Nat.le_of_ble_eq_true rfl)) (MM_210 hc hI (by decide +kernel) (by decide +kernel) (by omega)) (fun q4a q4b q4c q4d hqq4 => ?_)
    obtain ⟨f5, A6, rq4, eq4, hIq4, hGq4, hFq4, hX0q4, hX1q4, hX2q4, kq4⟩ := hqq4
    cases eq4
    refine ⟨rfl, rfl, ?_⟩
    have hr_3_f5 := hIq4.1 3
    simp only [MF] at hr_3_f5
    have hr_5_f5 := hIq4.1 5
    simp only [MF] at hr_5_f5
    have hr_8_f5 := hIq4.1 8
    simp only [MF] at hr_8_f5
    show pmE pg X pg_tyl pg_cl (d + 4) 212 32 [.ref 147, .int x1, pm_dead] [.int rq4] (md wc f5 A6) _
    refine pe_istore_n (j := 2) (ls' := [.ref 147, .int x1, .int rq4]) (by decide +kernel) (Nat.le_of_ble_eq_true rfl) rfl ?_
    refine pe_aload_n (j := 0) (by decide +kernel) rfl ?_
    refine pe_iload_n (j := 2) (by decide +kernel) rfl ?_
    refine pe_aload_n (j := 0) (by decide +kernel) rfl ?_
    refine pe_get (j := 134) (ci := 12) (n := 9) (by decide +kernel) (by decide +kernel) (md_o hc) rfl ?_
    refine pe_top (v := (f 9)) ((hGq4 9 (by decide) (by decide) (by decide) (by decide) (by decide) (by decide))) ?_
    have lw8 := zi_lo (f 9)
    have uw8 := zi_hi (f 9)
    refine pz_icmp_le (off := 7) (t := 46) (by decide +kernel) (by decide) rfl rfl rfl (fun h7 => ?_) (fun h7 => ?_)
    · skip
      refine pe_aload_n (j := 0) (by decide +kernel) rfl ?_
      refine pe_get (j := 134) (ci := 12) (n := 9) (by decide +kernel) (by decide +kernel) (md_o hc) rfl ?_
      refine pe_top (v := (f 9)) ((hGq4 9 (by decide) (by decide) (by decide) (by decide) (by decide) (by decide))) ?_
      refine mz_put9 (jj := 134) (by decide +kernel) (by decide +kernel) hc hIq4 (fun f9 ef9 hIf9 => ?_)
      refine pe_iload_n (j := 2) (by decide +kernel) rfl ?_
      have hx10 : (f9 3).toInt = (f5 3).toInt := (congrArg Int32.toInt (show f9 3 = (f5 3) from upf_fr ef9 (by decide))).trans rfl
      have hx11 : (f9 5).toInt = (f5 5).toInt := (congrArg Int32.toInt (show f9 5 = (f5 5) from upf_fr ef9 (by decide))).trans rfl
      have hx12 : (f9 8).toInt = (f5 8).toInt := (congrArg Int32.toInt (show f9 8 = (f5 8) from upf_fr ef9 (by decide))).trans rfl
      exact pe_iret (by decide +kernel) rfl rfl ⟨f9, A6, rq4, rfl, hIf9, (fun k n3 n4 n5 n6 n7 n8 n9 => (upf_fr ef9 n9).trans ((hGq4 k n3 n4 n5 n6 n7 n8))), (fun k n148 => (hFq4 k n148)), (by omega), ⟨(by omega), trivial⟩⟩
    · skip
      refine pe_iload_n (j := 2) (by decide +kernel) rfl ?_
      refine pe_goto (off := 7) (t := 50) (by decide +kernel) (by decide) rfl ?_
      refine mz_put9 (jj := 134) (by decide +kernel) (by decide +kernel) hc hIq4 (fun f13 ef13 hIf13 => ?_)
      refine pe_iload_n (j := 2) (by decide +kernel) rfl ?_
      have hx14 : (f13 3).toInt = (f5 3).toInt := (congrArg Int32.toInt (show f13 3 = (f5 3) from upf_fr ef13 (by decide))).trans rfl
      have hx15 : (f13 5).toInt = (f5 5).toInt := (congrArg Int32.toInt (show f13 5 = (f5 5) from upf_fr ef13 (by decide))).trans rfl
      have hx16 : (f13 8).toInt = (f5 8).toInt := (congrArg Int32.toInt (show f13 8 = (f5 8) from upf_fr ef13 (by decide))).trans rfl
      exact pe_iret (by decide +kernel) rfl rfl ⟨f13, A6, rq4, rfl, hIf13, (fun k n3 n4 n5 n6 n7 n8 n9 => (upf_fr ef13 n9).trans ((hGq4 k n3 n4 n5 n6 n7 n8))), (fun k n148 => (hFq4 k n148)), (by omega), ⟨(by omega), trivial⟩⟩
  · skip
    refine pe_aload_n (j := 0) (by decide +kernel) rfl ?_
    refine pe_get (j := 109) (ci := 12) (n := 6) (by decide +kernel) (by decide +kernel) (md_o hc) rfl ?_
    refine pe_iload_n (j := 1) (by decide +kernel) rfl ?_
    have lw18 := zi_lo (f 6)
    have uw18 := zi_hi (f 6)
    have lw19 := zi_lo x1
    have uw19 := zi_hi x1
    refine pz_icmp_ne (off := 12) (t := 25) (by decide +kernel) (by decide) rfl rfl rfl (fun h17 => ?_) (fun h17 => ?_)
    · skip
      refine pe_aload_n (j := 0) (by decide +kernel) rfl ?_
      refine pe_iconstv (n := 0) (v := 0) (by decide +kernel) (by decide +kernel) ?_
      refine pe_bipushv (n := 8) (v := 8) (by decide +kernel) (by decide +kernel) ?_
      have hl20 := kz_0
      have hl21 := kz_8
      have hr_3_f := hI.1 3
      simp only [MF] at hr_3_f
      have hr_8_f := hI.1 8
      simp only [MF] at hr_8_f
      refine pz_callV (j := 130) (mj := 210) (by decide +kernel) (cll_V (args := [.int 8, .int 0]) (n := 2) (by decide +kernel) rfl rfl (md_o hc) (by decide +kernel) (Nat.le_of_ble_eq_true rfl) (Nat.le_of_ble_eq_true rfl)) (MM_210 hc hI (by decide +kernel) (by decide +kernel) (by omega)) (fun q22a q22b q22c q22d hqq22 => ?_)
      obtain ⟨f23, A24, rq22, eq22, hIq22, hGq22, hFq22, hX0q22, hX1q22, hX2q22, kq22⟩ := hqq22
      cases eq22
      refine ⟨rfl, rfl, ?_⟩
      have hr_3_f23 := hIq22.1 3
      simp only [MF] at hr_3_f23
      have hr_5_f23 := hIq22.1 5
      simp only [MF] at hr_5_f23
      have hr_8_f23 := hIq22.1 8
      simp only [MF] at hr_8_f23
      show pmE pg X pg_tyl pg_cl (d + 4) 212 32 [.ref 147, .int x1, pm_dead] [.int rq22] (md wc f23 A24) _
      refine pe_istore_n (j := 2) (ls' := [.ref 147, .int x1, .int rq22]) (by decide +kernel) (Nat.le_of_ble_eq_true rfl) rfl ?_
      refine pe_aload_n (j := 0) (by decide +kernel) rfl ?_
      refine pe_iload_n (j := 2) (by decide +kernel) rfl ?_
      refine pe_aload_n (j := 0) (by decide +kernel) rfl ?_
      refine pe_get (j := 134) (ci := 12) (n := 9) (by decide +kernel) (by decide +kernel) (md_o hc) rfl ?_
      refine pe_top (v := (f 9)) ((hGq22 9 (by decide) (by decide) (by decide) (by decide) (by decide) (by decide))) ?_
      have lw26 := zi_lo (f 9)
      have uw26 := zi_hi (f 9)
      refine pz_icmp_le (off := 7) (t := 46) (by decide +kernel) (by decide) rfl rfl rfl (fun h25 => ?_) (fun h25 => ?_)
      · skip
        refine pe_aload_n (j := 0) (by decide +kernel) rfl ?_
        refine pe_get (j := 134) (ci := 12) (n := 9) (by decide +kernel) (by decide +kernel) (md_o hc) rfl ?_
        refine pe_top (v := (f 9)) ((hGq22 9 (by decide) (by decide) (by decide) (by decide) (by decide) (by decide))) ?_
        refine mz_put9 (jj := 134) (by decide +kernel) (by decide +kernel) hc hIq22 (fun f27 ef27 hIf27 => ?_)
        refine pe_iload_n (j := 2) (by decide +kernel) rfl ?_
        have hx28 : (f27 3).toInt = (f23 3).toInt := (congrArg Int32.toInt (show f27 3 = (f23 3) from upf_fr ef27 (by decide))).trans rfl
        have hx29 : (f27 5).toInt = (f23 5).toInt := (congrArg Int32.toInt (show f27 5 = (f23 5) from upf_fr ef27 (by decide))).trans rfl
        have hx30 : (f27 8).toInt = (f23 8).toInt := (congrArg Int32.toInt (show f27 8 = (f23 8) from upf_fr ef27 (by decide))).trans rfl
        exact pe_iret (by decide +kernel) rfl rfl ⟨f27, A24, rq22, rfl, hIf27, (fun k n3 n4 n5 n6 n7 n8 n9 => (upf_fr ef27 n9).trans ((hGq22 k n3 n4 n5 n6 n7 n8))), (fun k n148 => (hFq22 k n148)), (by omega), ⟨(by omega), trivial⟩⟩
      · skip
        refine pe_iload_n (j := 2) (by decide +kernel) rfl ?_
        refine pe_goto (off := 7) (t := 50) (by decide +kernel) (by decide) rfl ?_
        refine mz_put9 (jj := 134) (by decide +kernel) (by decide +kernel) hc hIq22 (fun f31 ef31 hIf31 => ?_)
        refine pe_iload_n (j := 2) (by decide +kernel) rfl ?_
        have hx32 : (f31 3).toInt = (f23 3).toInt := (congrArg Int32.toInt (show f31 3 = (f23 3) from upf_fr ef31 (by decide))).trans rfl
        have hx33 : (f31 5).toInt = (f23 5).toInt := (congrArg Int32.toInt (show f31 5 = (f23 5) from upf_fr ef31 (by decide))).trans rfl
        have hx34 : (f31 8).toInt = (f23 8).toInt := (congrArg Int32.toInt (show f31 8 = (f23 8) from upf_fr ef31 (by decide))).trans rfl
        exact pe_iret (by decide +kernel) rfl rfl ⟨f31, A24, rq22, rfl, hIf31, (fun k n3 n4 n5 n6 n7 n8 n9 => (upf_fr ef31 n9).trans ((hGq22 k n3 n4 n5 n6 n7 n8))), (fun k n148 => (hFq22 k n148)), (by omega), ⟨(by omega), trivial⟩⟩
    · skip
      refine pe_aload_n (j := 0) (by decide +kernel) rfl ?_
      refine pe_iconstv (n := 2) (v := 2) (by decide +kernel) (by decide +kernel) ?_
      refine pe_aload_n (j := 0) (by decide +kernel) rfl ?_
      refine pe_get (j := 90) (ci := 12) (n := 4) (by decide +kernel) (by decide +kernel) (md_o hc) rfl ?_
      refine pi_V (j := 123) (mj := 211) (by decide +kernel) (cll_V (args := [.int (f 4), .int 2]) (n := 2) (by decide +kernel) rfl rfl (md_o hc) (by decide +kernel) (Nat.le_of_ble_eq_true rfl) (Nat.le_of_ble_eq_true rfl)) ?_
      show pmE pg X pg_tyl pg_cl (d + 3) 211 0 [.ref 147, .int 2, .int (f 4)] [] (md wc f A) _
      refine pe_aload_n (j := 0) (by decide +kernel) rfl ?_
      refine pe_get (j := 112) (ci := 12) (n := 8) (by decide +kernel) (by decide +kernel) (md_o hc) rfl ?_
      have hr_8_f := hI.1 8
      simp only [MF] at hr_8_f
      refine pz_if_ne (off := 42) (t := 46) (by decide +kernel) (by decide) rfl rfl (fun h35 => ?_) (fun h35 => ?_)
      · skip
        refine pe_vret (by decide +kernel) rfl ⟨rfl, rfl, ?_⟩
        show pmE pg X pg_tyl pg_cl (d + 4) 212 25 [.ref 147, .int x1, pm_dead] [] (md wc f A) _
        refine pe_aload_n (j := 0) (by decide +kernel) rfl ?_
        refine pe_iconstv (n := 0) (v := 0) (by decide +kernel) (by decide +kernel) ?_
        refine pe_bipushv (n := 8) (v := 8) (by decide +kernel) (by decide +kernel) ?_
        have hl36 := kz_0
        have hl37 := kz_8
        have hr_3_f := hI.1 3
        simp only [MF] at hr_3_f
        refine pz_callV (j := 130) (mj := 210) (by decide +kernel) (cll_V (args := [.int 8, .int 0]) (n := 2) (by decide +kernel) rfl rfl (md_o hc) (by decide +kernel) (Nat.le_of_ble_eq_true rfl) (Nat.le_of_ble_eq_true rfl)) (MM_210 hc hI (by decide +kernel) (by decide +kernel) (by omega)) (fun q38a q38b q38c q38d hqq38 => ?_)
        obtain ⟨f39, A40, rq38, eq38, hIq38, hGq38, hFq38, hX0q38, hX1q38, hX2q38, kq38⟩ := hqq38
        cases eq38
        refine ⟨rfl, rfl, ?_⟩
        have hr_3_f39 := hIq38.1 3
        simp only [MF] at hr_3_f39
        have hr_5_f39 := hIq38.1 5
        simp only [MF] at hr_5_f39
        have hr_8_f39 := hIq38.1 8
        simp only [MF] at hr_8_f39
        show pmE pg X pg_tyl pg_cl (d + 4) 212 32 [.ref 147, .int x1, pm_dead] [.int rq38] (md wc f39 A40) _
        refine pe_istore_n (j := 2) (ls' := [.ref 147, .int x1, .int rq38]) (by decide +kernel) (Nat.le_of_ble_eq_true rfl) rfl ?_
        refine pe_aload_n (j := 0) (by decide +kernel) rfl ?_
        refine pe_iload_n (j := 2) (by decide +kernel) rfl ?_
        refine pe_aload_n (j := 0) (by decide +kernel) rfl ?_
        refine pe_get (j := 134) (ci := 12) (n := 9) (by decide +kernel) (by decide +kernel) (md_o hc) rfl ?_
        refine pe_top (v := (f 9)) ((hGq38 9 (by decide) (by decide) (by decide) (by decide) (by decide) (by decide))) ?_
        have lw42 := zi_lo (f 9)
        have uw42 := zi_hi (f 9)
        refine pz_icmp_le (off := 7) (t := 46) (by decide +kernel) (by decide) rfl rfl rfl (fun h41 => ?_) (fun h41 => ?_)
        · skip
          refine pe_aload_n (j := 0) (by decide +kernel) rfl ?_
          refine pe_get (j := 134) (ci := 12) (n := 9) (by decide +kernel) (by decide +kernel) (md_o hc) rfl ?_
          refine pe_top (v := (f 9)) ((hGq38 9 (by decide) (by decide) (by decide) (by decide) (by decide) (by decide))) ?_
          refine mz_put9 (jj := 134) (by decide +kernel) (by decide +kernel) hc hIq38 (fun f43 ef43 hIf43 => ?_)
          refine pe_iload_n (j := 2) (by decide +kernel) rfl ?_
          have hx44 : (f43 3).toInt = (f39 3).toInt := (congrArg Int32.toInt (show f43 3 = (f39 3) from upf_fr ef43 (by decide))).trans rfl
          have hx45 : (f43 5).toInt = (f39 5).toInt := (congrArg Int32.toInt (show f43 5 = (f39 5) from upf_fr ef43 (by decide))).trans rfl
          have hx46 : (f43 8).toInt = (f39 8).toInt := (congrArg Int32.toInt (show f43 8 = (f39 8) from upf_fr ef43 (by decide))).trans rfl
          exact pe_iret (by decide +kernel) rfl rfl ⟨f43, A40, rq38, rfl, hIf43, (fun k n3 n4 n5 n6 n7 n8 n9 => (upf_fr ef43 n9).trans ((hGq38 k n3 n4 n5 n6 n7 n8))), (fun k n148 => (hFq38 k n148)), (by omega), ⟨(by omega), trivial⟩⟩
        · skip
          refine pe_iload_n (j := 2) (by decide +kernel) rfl ?_
          refine pe_goto (off := 7) (t := 50) (by decide +kernel) (by decide) rfl ?_
          refine mz_put9 (jj := 134) (by decide +kernel) (by decide +kernel) hc hIq38 (fun f47 ef47 hIf47 => ?_)
          refine pe_iload_n (j := 2) (by decide +kernel) rfl ?_
          have hx48 : (f47 3).toInt = (f39 3).toInt := (congrArg Int32.toInt (show f47 3 = (f39 3) from upf_fr ef47 (by decide))).trans rfl
          have hx49 : (f47 5).toInt = (f39 5).toInt := (congrArg Int32.toInt (show f47 5 = (f39 5) from upf_fr ef47 (by decide))).trans rfl
          have hx50 : (f47 8).toInt = (f39 8).toInt := (congrArg Int32.toInt (show f47 8 = (f39 8) from upf_fr ef47 (by decide))).trans rfl
          exact pe_iret (by decide +kernel) rfl rfl ⟨f47, A40, rq38, rfl, hIf47, (fun k n3 n4 n5 n6 n7 n8 n9 => (upf_fr ef47 n9).trans ((hGq38 k n3 n4 n5 n6 n7 n8))), (fun k n148 => (hFq38 k n148)), (by omega), ⟨(by omega), trivial⟩⟩
      · skip
        refine pe_aload_n (j := 0) (by decide +kernel) rfl ?_
        refine pe_get (j := 7) (ci := 12) (n := 0) (by decide +kernel) (by decide +kernel) (md_o hc) rfl ?_
        refine pe_iconstv (n := 3) (v := 3) (by decide +kernel) (by decide +kernel) ?_
        refine mz_ld148 (by decide +kernel) hc hI kz_3 (by omega) (by omega) (fun v51 ev51 pv51 => ?_)
        clear pv51
        have lw53 := zi_lo v51
        have uw53 := zi_hi v51
        refine pz_if_eq (off := 34) (t := 47) (by decide +kernel) (by decide) rfl rfl (fun h52 => ?_) (fun h52 => ?_)
        · skip
          refine pe_aload_n (j := 0) (by decide +kernel) rfl ?_
          refine pe_get (j := 7) (ci := 12) (n := 0) (by decide +kernel) (by decide +kernel) (md_o hc) rfl ?_
          refine pe_iconstv (n := 3) (v := 3) (by decide +kernel) (by decide +kernel) ?_
          refine pe_iload_n (j := 1) (by decide +kernel) rfl ?_
          refine mz_st148 (by decide +kernel) hc hI kz_3 (by omega) (by omega) (by rw [kz_2]; simp only [MT]; omega) (fun A54 eA54 hIA54 => ?_)
          refine pe_aload_n (j := 0) (by decide +kernel) rfl ?_
          refine pe_get (j := 7) (ci := 12) (n := 0) (by decide +kernel) (by decide +kernel) (md_o hc) rfl ?_
          refine pe_iconstv (n := 4) (v := 4) (by decide +kernel) (by decide +kernel) ?_
          refine pe_iload_n (j := 2) (by decide +kernel) rfl ?_
          refine mz_st148 (by decide +kernel) hc hIA54 kz_4 (by omega) (by omega) (by simp only [MT]; omega) (fun A55 eA55 hIA55 => ?_)
          refine pe_vret (by decide +kernel) rfl ⟨rfl, rfl, ?_⟩
          show pmE pg X pg_tyl pg_cl (d + 4) 212 25 [.ref 147, .int x1, pm_dead] [] (md wc f A55) _
          refine pe_aload_n (j := 0) (by decide +kernel) rfl ?_
          refine pe_iconstv (n := 0) (v := 0) (by decide +kernel) (by decide +kernel) ?_
          refine pe_bipushv (n := 8) (v := 8) (by decide +kernel) (by decide +kernel) ?_
          have hl56 := kz_0
          have hl57 := kz_8
          have hr_3_f := hI.1 3
          simp only [MF] at hr_3_f
          refine pz_callV (j := 130) (mj := 210) (by decide +kernel) (cll_V (args := [.int 8, .int 0]) (n := 2) (by decide +kernel) rfl rfl (md_o hc) (by decide +kernel) (Nat.le_of_ble_eq_true rfl) (Nat.le_of_ble_eq_true rfl)) (MM_210 hc hIA55 (by decide +kernel) (by decide +kernel) (by omega)) (fun q58a q58b q58c q58d hqq58 => ?_)
          obtain ⟨f59, A60, rq58, eq58, hIq58, hGq58, hFq58, hX0q58, hX1q58, hX2q58, kq58⟩ := hqq58
          cases eq58
          refine ⟨rfl, rfl, ?_⟩
          have hr_3_f59 := hIq58.1 3
          simp only [MF] at hr_3_f59
          have hr_5_f59 := hIq58.1 5
          simp only [MF] at hr_5_f59
          have hr_8_f59 := hIq58.1 8
          simp only [MF] at hr_8_f59
          show pmE pg X pg_tyl pg_cl (d + 4) 212 32 [.ref 147, .int x1, pm_dead] [.int rq58] (md wc f59 A60) _
          refine pe_istore_n (j := 2) (ls' := [.ref 147, .int x1, .int rq58]) (by decide +kernel) (Nat.le_of_ble_eq_true rfl) rfl ?_
          refine pe_aload_n (j := 0) (by decide +kernel) rfl ?_
          refine pe_iload_n (j := 2) (by decide +kernel) rfl ?_
          refine pe_aload_n (j := 0) (by decide +kernel) rfl ?_
          refine pe_get (j := 134) (ci := 12) (n := 9) (by decide +kernel) (by decide +kernel) (md_o hc) rfl ?_
          refine pe_top (v := (f 9)) ((hGq58 9 (by decide) (by decide) (by decide) (by decide) (by decide) (by decide))) ?_
          have lw62 := zi_lo (f 9)
          have uw62 := zi_hi (f 9)
          refine pz_icmp_le (off := 7) (t := 46) (by decide +kernel) (by decide) rfl rfl rfl (fun h61 => ?_) (fun h61 => ?_)
          · skip
            refine pe_aload_n (j := 0) (by decide +kernel) rfl ?_
            refine pe_get (j := 134) (ci := 12) (n := 9) (by decide +kernel) (by decide +kernel) (md_o hc) rfl ?_
            refine pe_top (v := (f 9)) ((hGq58 9 (by decide) (by decide) (by decide) (by decide) (by decide) (by decide))) ?_
            refine mz_put9 (jj := 134) (by decide +kernel) (by decide +kernel) hc hIq58 (fun f63 ef63 hIf63 => ?_)
            refine pe_iload_n (j := 2) (by decide +kernel) rfl ?_
            have hx64 : (f63 3).toInt = (f59 3).toInt := (congrArg Int32.toInt (show f63 3 = (f59 3) from upf_fr ef63 (by decide))).trans rfl
            have hx65 : (f63 5).toInt = (f59 5).toInt := (congrArg Int32.toInt (show f63 5 = (f59 5) from upf_fr ef63 (by decide))).trans rfl
            have hx66 : (f63 8).toInt = (f59 8).toInt := (congrArg Int32.toInt (show f63 8 = (f59 8) from upf_fr ef63 (by decide))).trans rfl
            exact pe_iret (by decide +kernel) rfl rfl ⟨f63, A60, rq58, rfl, hIf63, (fun k n3 n4 n5 n6 n7 n8 n9 => (upf_fr ef63 n9).trans ((hGq58 k n3 n4 n5 n6 n7 n8))), (fun k n148 => ((hFq58 k n148)).trans ((upa_fr eA55 n148).trans (upa_fr eA54 n148))), (by omega), ⟨(by omega), trivial⟩⟩
          · skip
            refine pe_iload_n (j := 2) (by decide +kernel) rfl ?_
            refine pe_goto (off := 7) (t := 50) (by decide +kernel) (by decide) rfl ?_
            refine mz_put9 (jj := 134) (by decide +kernel) (by decide +kernel) hc hIq58 (fun f67 ef67 hIf67 => ?_)
            refine pe_iload_n (j := 2) (by decide +kernel) rfl ?_
            have hx68 : (f67 3).toInt = (f59 3).toInt := (congrArg Int32.toInt (show f67 3 = (f59 3) from upf_fr ef67 (by decide))).trans rfl
            have hx69 : (f67 5).toInt = (f59 5).toInt := (congrArg Int32.toInt (show f67 5 = (f59 5) from upf_fr ef67 (by decide))).trans rfl
            have hx70 : (f67 8).toInt = (f59 8).toInt := (congrArg Int32.toInt (show f67 8 = (f59 8) from upf_fr ef67 (by decide))).trans rfl
            exact pe_iret (by decide +kernel) rfl rfl ⟨f67, A60, rq58, rfl, hIf67, (fun k n3 n4 n5 n6 n7 n8 n9 => (upf_fr ef67 n9).trans ((hGq58 k n3 n4 n5 n6 n7 n8))), (fun k n148 => ((hFq58 k n148)).trans ((upa_fr eA55 n148).trans (upa_fr eA54 n148))), (by omega), ⟨(by omega), trivial⟩⟩
        · skip
          refine pe_aload_n (j := 0) (by decide +kernel) rfl ?_
          refine pe_get (j := 7) (ci := 12) (n := 0) (by decide +kernel) (by decide +kernel) (md_o hc) rfl ?_
          refine pe_iconstv (n := 4) (v := 4) (by decide +kernel) (by decide +kernel) ?_
          refine mz_ld148 (by decide +kernel) hc hI kz_4 (by omega) (by omega) (fun v71 ev71 pv71 => ?_)
          clear pv71
          refine pe_iload_n (j := 2) (by decide +kernel) rfl ?_
          have lw73 := zi_lo v71
          have uw73 := zi_hi v71
          have lw74 := zi_lo (f 4)
          have uw74 := zi_hi (f 4)
          refine pz_icmp_lt (off := 23) (t := 46) (by decide +kernel) (by decide) rfl rfl rfl (fun h72 => ?_) (fun h72 => ?_)
          · skip
            refine pe_vret (by decide +kernel) rfl ⟨rfl, rfl, ?_⟩
            show pmE pg X pg_tyl pg_cl (d + 4) 212 25 [.ref 147, .int x1, pm_dead] [] (md wc f A) _
            refine pe_aload_n (j := 0) (by decide +kernel) rfl ?_
            refine pe_iconstv (n := 0) (v := 0) (by decide +kernel) (by decide +kernel) ?_
            refine pe_bipushv (n := 8) (v := 8) (by decide +kernel) (by decide +kernel) ?_
            have hl75 := kz_0
            have hl76 := kz_8
            have hr_3_f := hI.1 3
            simp only [MF] at hr_3_f
            refine pz_callV (j := 130) (mj := 210) (by decide +kernel) (cll_V (args := [.int 8, .int 0]) (n := 2) (by decide +kernel) rfl rfl (md_o hc) (by decide +kernel) (Nat.le_of_ble_eq_true rfl) (Nat.le_of_ble_eq_true rfl)) (MM_210 hc hI (by decide +kernel) (by decide +kernel) (by omega)) (fun q77a q77b q77c q77d hqq77 => ?_)
            obtain ⟨f78, A79, rq77, eq77, hIq77, hGq77, hFq77, hX0q77, hX1q77, hX2q77, kq77⟩ := hqq77
            cases eq77
            refine ⟨rfl, rfl, ?_⟩
            have hr_3_f78 := hIq77.1 3
            simp only [MF] at hr_3_f78
            have hr_5_f78 := hIq77.1 5
            simp only [MF] at hr_5_f78
            have hr_8_f78 := hIq77.1 8
            simp only [MF] at hr_8_f78
            show pmE pg X pg_tyl pg_cl (d + 4) 212 32 [.ref 147, .int x1, pm_dead] [.int rq77] (md wc f78 A79) _
            refine pe_istore_n (j := 2) (ls' := [.ref 147, .int x1, .int rq77]) (by decide +kernel) (Nat.le_of_ble_eq_true rfl) rfl ?_
            refine pe_aload_n (j := 0) (by decide +kernel) rfl ?_
            refine pe_iload_n (j := 2) (by decide +kernel) rfl ?_
            refine pe_aload_n (j := 0) (by decide +kernel) rfl ?_
            refine pe_get (j := 134) (ci := 12) (n := 9) (by decide +kernel) (by decide +kernel) (md_o hc) rfl ?_
            refine pe_top (v := (f 9)) ((hGq77 9 (by decide) (by decide) (by decide) (by decide) (by decide) (by decide))) ?_
            have lw81 := zi_lo (f 9)
            have uw81 := zi_hi (f 9)
            refine pz_icmp_le (off := 7) (t := 46) (by decide +kernel) (by decide) rfl rfl rfl (fun h80 => ?_) (fun h80 => ?_)
            · skip
              refine pe_aload_n (j := 0) (by decide +kernel) rfl ?_
              refine pe_get (j := 134) (ci := 12) (n := 9) (by decide +kernel) (by decide +kernel) (md_o hc) rfl ?_
              refine pe_top (v := (f 9)) ((hGq77 9 (by decide) (by decide) (by decide) (by decide) (by decide) (by decide))) ?_
              refine mz_put9 (jj := 134) (by decide +kernel) (by decide +kernel) hc hIq77 (fun f82 ef82 hIf82 => ?_)
              refine pe_iload_n (j := 2) (by decide +kernel) rfl ?_
              have hx83 : (f82 3).toInt = (f78 3).toInt := (congrArg Int32.toInt (show f82 3 = (f78 3) from upf_fr ef82 (by decide))).trans rfl
              have hx84 : (f82 5).toInt = (f78 5).toInt := (congrArg Int32.toInt (show f82 5 = (f78 5) from upf_fr ef82 (by decide))).trans rfl
              have hx85 : (f82 8).toInt = (f78 8).toInt := (congrArg Int32.toInt (show f82 8 = (f78 8) from upf_fr ef82 (by decide))).trans rfl
              exact pe_iret (by decide +kernel) rfl rfl ⟨f82, A79, rq77, rfl, hIf82, (fun k n3 n4 n5 n6 n7 n8 n9 => (upf_fr ef82 n9).trans ((hGq77 k n3 n4 n5 n6 n7 n8))), (fun k n148 => (hFq77 k n148)), (by omega), ⟨(by omega), trivial⟩⟩
            · skip
              refine pe_iload_n (j := 2) (by decide +kernel) rfl ?_
              refine pe_goto (off := 7) (t := 50) (by decide +kernel) (by decide) rfl ?_
              refine mz_put9 (jj := 134) (by decide +kernel) (by decide +kernel) hc hIq77 (fun f86 ef86 hIf86 => ?_)
              refine pe_iload_n (j := 2) (by decide +kernel) rfl ?_
              have hx87 : (f86 3).toInt = (f78 3).toInt := (congrArg Int32.toInt (show f86 3 = (f78 3) from upf_fr ef86 (by decide))).trans rfl
              have hx88 : (f86 5).toInt = (f78 5).toInt := (congrArg Int32.toInt (show f86 5 = (f78 5) from upf_fr ef86 (by decide))).trans rfl
              have hx89 : (f86 8).toInt = (f78 8).toInt := (congrArg Int32.toInt (show f86 8 = (f78 8) from upf_fr ef86 (by decide))).trans rfl
              exact pe_iret (by decide +kernel) rfl rfl ⟨f86, A79, rq77, rfl, hIf86, (fun k n3 n4 n5 n6 n7 n8 n9 => (upf_fr ef86 n9).trans ((hGq77 k n3 n4 n5 n6 n7 n8))), (fun k n148 => (hFq77 k n148)), (by omega), ⟨(by omega), trivial⟩⟩
          · skip
            refine pe_aload_n (j := 0) (by decide +kernel) rfl ?_
            refine pe_get (j := 7) (ci := 12) (n := 0) (by decide +kernel) (by decide +kernel) (md_o hc) rfl ?_
            refine pe_iconstv (n := 4) (v := 4) (by decide +kernel) (by decide +kernel) ?_
            refine mz_ld148 (by decide +kernel) hc hI kz_4 (by omega) (by omega) (fun v90 ev90 pv90 => ?_)
            rw [ev90.trans ev71.symm]
            clear pv90 ev90 v90
            refine pe_iload_n (j := 2) (by decide +kernel) rfl ?_
            refine pz_icmp_ne (off := 14) (t := 47) (by decide +kernel) (by decide) rfl rfl rfl (fun h91 => ?_) (fun h91 => ?_)
            · skip
              refine pe_aload_n (j := 0) (by decide +kernel) rfl ?_
              refine pe_get (j := 7) (ci := 12) (n := 0) (by decide +kernel) (by decide +kernel) (md_o hc) rfl ?_
              refine pe_iconstv (n := 3) (v := 3) (by decide +kernel) (by decide +kernel) ?_
              refine pe_iload_n (j := 1) (by decide +kernel) rfl ?_
              refine mz_st148 (by decide +kernel) hc hI kz_3 (by omega) (by omega) (by rw [kz_2]; simp only [MT]; omega) (fun A92 eA92 hIA92 => ?_)
              refine pe_aload_n (j := 0) (by decide +kernel) rfl ?_
              refine pe_get (j := 7) (ci := 12) (n := 0) (by decide +kernel) (by decide +kernel) (md_o hc) rfl ?_
              refine pe_iconstv (n := 4) (v := 4) (by decide +kernel) (by decide +kernel) ?_
              refine pe_iload_n (j := 2) (by decide +kernel) rfl ?_
              refine mz_st148 (by decide +kernel) hc hIA92 kz_4 (by omega) (by omega) (by simp only [MT]; omega) (fun A93 eA93 hIA93 => ?_)
              refine pe_vret (by decide +kernel) rfl ⟨rfl, rfl, ?_⟩
              show pmE pg X pg_tyl pg_cl (d + 4) 212 25 [.ref 147, .int x1, pm_dead] [] (md wc f A93) _
              refine pe_aload_n (j := 0) (by decide +kernel) rfl ?_
              refine pe_iconstv (n := 0) (v := 0) (by decide +kernel) (by decide +kernel) ?_
              refine pe_bipushv (n := 8) (v := 8) (by decide +kernel) (by decide +kernel) ?_
              have hl94 := kz_0
              have hl95 := kz_8
              have hr_3_f := hI.1 3
              simp only [MF] at hr_3_f
              refine pz_callV (j := 130) (mj := 210) (by decide +kernel) (cll_V (args := [.int 8, .int 0]) (n := 2) (by decide +kernel) rfl rfl (md_o hc) (by decide +kernel) (Nat.le_of_ble_eq_true rfl) (Nat.le_of_ble_eq_true rfl)) (MM_210 hc hIA93 (by decide +kernel) (by decide +kernel) (by omega)) (fun q96a q96b q96c q96d hqq96 => ?_)
              obtain ⟨f97, A98, rq96, eq96, hIq96, hGq96, hFq96, hX0q96, hX1q96, hX2q96, kq96⟩ := hqq96
              cases eq96
              refine ⟨rfl, rfl, ?_⟩
              have hr_3_f97 := hIq96.1 3
              simp only [MF] at hr_3_f97
              have hr_5_f97 := hIq96.1 5
              simp only [MF] at hr_5_f97
              have hr_8_f97 := hIq96.1 8
              simp only [MF] at hr_8_f97
              show pmE pg X pg_tyl pg_cl (d + 4) 212 32 [.ref 147, .int x1, pm_dead] [.int rq96] (md wc f97 A98) _
              refine pe_istore_n (j := 2) (ls' := [.ref 147, .int x1, .int rq96]) (by decide +kernel) (Nat.le_of_ble_eq_true rfl) rfl ?_
              refine pe_aload_n (j := 0) (by decide +kernel) rfl ?_
              refine pe_iload_n (j := 2) (by decide +kernel) rfl ?_
              refine pe_aload_n (j := 0) (by decide +kernel) rfl ?_
              refine pe_get (j := 134) (ci := 12) (n := 9) (by decide +kernel) (by decide +kernel) (md_o hc) rfl ?_
              refine pe_top (v := (f 9)) ((hGq96 9 (by decide) (by decide) (by decide) (by decide) (by decide) (by decide))) ?_
              have lw100 := zi_lo (f 9)
              have uw100 := zi_hi (f 9)
              refine pz_icmp_le (off := 7) (t := 46) (by decide +kernel) (by decide) rfl rfl rfl (fun h99 => ?_) (fun h99 => ?_)
              · skip
                refine pe_aload_n (j := 0) (by decide +kernel) rfl ?_
                refine pe_get (j := 134) (ci := 12) (n := 9) (by decide +kernel) (by decide +kernel) (md_o hc) rfl ?_
                refine pe_top (v := (f 9)) ((hGq96 9 (by decide) (by decide) (by decide) (by decide) (by decide) (by decide))) ?_
                refine mz_put9 (jj := 134) (by decide +kernel) (by decide +kernel) hc hIq96 (fun f101 ef101 hIf101 => ?_)
                refine pe_iload_n (j := 2) (by decide +kernel) rfl ?_
                have hx102 : (f101 3).toInt = (f97 3).toInt := (congrArg Int32.toInt (show f101 3 = (f97 3) from upf_fr ef101 (by decide))).trans rfl
                have hx103 : (f101 5).toInt = (f97 5).toInt := (congrArg Int32.toInt (show f101 5 = (f97 5) from upf_fr ef101 (by decide))).trans rfl
                have hx104 : (f101 8).toInt = (f97 8).toInt := (congrArg Int32.toInt (show f101 8 = (f97 8) from upf_fr ef101 (by decide))).trans rfl
                exact pe_iret (by decide +kernel) rfl rfl ⟨f101, A98, rq96, rfl, hIf101, (fun k n3 n4 n5 n6 n7 n8 n9 => (upf_fr ef101 n9).trans ((hGq96 k n3 n4 n5 n6 n7 n8))), (fun k n148 => ((hFq96 k n148)).trans ((upa_fr eA93 n148).trans (upa_fr eA92 n148))), (by omega), ⟨(by omega), trivial⟩⟩
              · skip
                refine pe_iload_n (j := 2) (by decide +kernel) rfl ?_
                refine pe_goto (off := 7) (t := 50) (by decide +kernel) (by decide) rfl ?_
                refine mz_put9 (jj := 134) (by decide +kernel) (by decide +kernel) hc hIq96 (fun f105 ef105 hIf105 => ?_)
                refine pe_iload_n (j := 2) (by decide +kernel) rfl ?_
                have hx106 : (f105 3).toInt = (f97 3).toInt := (congrArg Int32.toInt (show f105 3 = (f97 3) from upf_fr ef105 (by decide))).trans rfl
                have hx107 : (f105 5).toInt = (f97 5).toInt := (congrArg Int32.toInt (show f105 5 = (f97 5) from upf_fr ef105 (by decide))).trans rfl
                have hx108 : (f105 8).toInt = (f97 8).toInt := (congrArg Int32.toInt (show f105 8 = (f97 8) from upf_fr ef105 (by decide))).trans rfl
                exact pe_iret (by decide +kernel) rfl rfl ⟨f105, A98, rq96, rfl, hIf105, (fun k n3 n4 n5 n6 n7 n8 n9 => (upf_fr ef105 n9).trans ((hGq96 k n3 n4 n5 n6 n7 n8))), (fun k n148 => ((hFq96 k n148)).trans ((upa_fr eA93 n148).trans (upa_fr eA92 n148))), (by omega), ⟨(by omega), trivial⟩⟩
            · skip
              refine pe_aload_n (j := 0) (by decide +kernel) rfl ?_
              refine pe_get (j := 7) (ci := 12) (n := 0) (by decide +kernel) (by decide +kernel) (md_o hc) rfl ?_
              refine pe_iconstv (n := 3) (v := 3) (by decide +kernel) (by decide +kernel) ?_
              refine mz_ld148 (by decide +kernel) hc hI kz_3 (by omega) (by omega) (fun v109 ev109 pv109 => ?_)
              rw [ev109.trans ev51.symm]
              clear pv109 ev109 v109
              refine pe_iload_n (j := 1) (by decide +kernel) rfl ?_
              refine pz_icmp_gt (off := 4) (t := 47) (by decide +kernel) (by decide) rfl rfl kz_2 (fun h110 => ?_) (fun h110 => ?_)
              · skip
                refine pe_aload_n (j := 0) (by decide +kernel) rfl ?_
                refine pe_get (j := 7) (ci := 12) (n := 0) (by decide +kernel) (by decide +kernel) (md_o hc) rfl ?_
                refine pe_iconstv (n := 3) (v := 3) (by decide +kernel) (by decide +kernel) ?_
                refine pe_iload_n (j := 1) (by decide +kernel) rfl ?_
                refine mz_st148 (by decide +kernel) hc hI kz_3 (by omega) (by omega) (by rw [kz_2]; simp only [MT]; omega) (fun A111 eA111 hIA111 => ?_)
                refine pe_aload_n (j := 0) (by decide +kernel) rfl ?_
                refine pe_get (j := 7) (ci := 12) (n := 0) (by decide +kernel) (by decide +kernel) (md_o hc) rfl ?_
                refine pe_iconstv (n := 4) (v := 4) (by decide +kernel) (by decide +kernel) ?_
                refine pe_iload_n (j := 2) (by decide +kernel) rfl ?_
                refine mz_st148 (by decide +kernel) hc hIA111 kz_4 (by omega) (by omega) (by simp only [MT]; omega) (fun A112 eA112 hIA112 => ?_)
                refine pe_vret (by decide +kernel) rfl ⟨rfl, rfl, ?_⟩
                show pmE pg X pg_tyl pg_cl (d + 4) 212 25 [.ref 147, .int x1, pm_dead] [] (md wc f A112) _
                refine pe_aload_n (j := 0) (by decide +kernel) rfl ?_
                refine pe_iconstv (n := 0) (v := 0) (by decide +kernel) (by decide +kernel) ?_
                refine pe_bipushv (n := 8) (v := 8) (by decide +kernel) (by decide +kernel) ?_
                have hl113 := kz_0
                have hl114 := kz_8
                have hr_3_f := hI.1 3
                simp only [MF] at hr_3_f
                refine pz_callV (j := 130) (mj := 210) (by decide +kernel) (cll_V (args := [.int 8, .int 0]) (n := 2) (by decide +kernel) rfl rfl (md_o hc) (by decide +kernel) (Nat.le_of_ble_eq_true rfl) (Nat.le_of_ble_eq_true rfl)) (MM_210 hc hIA112 (by decide +kernel) (by decide +kernel) (by omega)) (fun q115a q115b q115c q115d hqq115 => ?_)
                obtain ⟨f116, A117, rq115, eq115, hIq115, hGq115, hFq115, hX0q115, hX1q115, hX2q115, kq115⟩ := hqq115
                cases eq115
                refine ⟨rfl, rfl, ?_⟩
                have hr_3_f116 := hIq115.1 3
                simp only [MF] at hr_3_f116
                have hr_5_f116 := hIq115.1 5
                simp only [MF] at hr_5_f116
                have hr_8_f116 := hIq115.1 8
                simp only [MF] at hr_8_f116
                show pmE pg X pg_tyl pg_cl (d + 4) 212 32 [.ref 147, .int x1, pm_dead] [.int rq115] (md wc f116 A117) _
                refine pe_istore_n (j := 2) (ls' := [.ref 147, .int x1, .int rq115]) (by decide +kernel) (Nat.le_of_ble_eq_true rfl) rfl ?_
                refine pe_aload_n (j := 0) (by decide +kernel) rfl ?_
                refine pe_iload_n (j := 2) (by decide +kernel) rfl ?_
                refine pe_aload_n (j := 0) (by decide +kernel) rfl ?_
                refine pe_get (j := 134) (ci := 12) (n := 9) (by decide +kernel) (by decide +kernel) (md_o hc) rfl ?_
                refine pe_top (v := (f 9)) ((hGq115 9 (by decide) (by decide) (by decide) (by decide) (by decide) (by decide))) ?_
                have lw119 := zi_lo (f 9)
                have uw119 := zi_hi (f 9)
                refine pz_icmp_le (off := 7) (t := 46) (by decide +kernel) (by decide) rfl rfl rfl (fun h118 => ?_) (fun h118 => ?_)
                · skip
                  refine pe_aload_n (j := 0) (by decide +kernel) rfl ?_
                  refine pe_get (j := 134) (ci := 12) (n := 9) (by decide +kernel) (by decide +kernel) (md_o hc) rfl ?_
                  refine pe_top (v := (f 9)) ((hGq115 9 (by decide) (by decide) (by decide) (by decide) (by decide) (by decide))) ?_
                  refine mz_put9 (jj := 134) (by decide +kernel) (by decide +kernel) hc hIq115 (fun f120 ef120 hIf120 => ?_)
                  refine pe_iload_n (j := 2) (by decide +kernel) rfl ?_
                  have hx121 : (f120 3).toInt = (f116 3).toInt := (congrArg Int32.toInt (show f120 3 = (f116 3) from upf_fr ef120 (by decide))).trans rfl
                  have hx122 : (f120 5).toInt = (f116 5).toInt := (congrArg Int32.toInt (show f120 5 = (f116 5) from upf_fr ef120 (by decide))).trans rfl
                  have hx123 : (f120 8).toInt = (f116 8).toInt := (congrArg Int32.toInt (show f120 8 = (f116 8) from upf_fr ef120 (by decide))).trans rfl
                  exact pe_iret (by decide +kernel) rfl rfl ⟨f120, A117, rq115, rfl, hIf120, (fun k n3 n4 n5 n6 n7 n8 n9 => (upf_fr ef120 n9).trans ((hGq115 k n3 n4 n5 n6 n7 n8))), (fun k n148 => ((hFq115 k n148)).trans ((upa_fr eA112 n148).trans (upa_fr eA111 n148))), (by omega), ⟨(by omega), trivial⟩⟩
                · skip
                  refine pe_iload_n (j := 2) (by decide +kernel) rfl ?_
                  refine pe_goto (off := 7) (t := 50) (by decide +kernel) (by decide) rfl ?_
                  refine mz_put9 (jj := 134) (by decide +kernel) (by decide +kernel) hc hIq115 (fun f124 ef124 hIf124 => ?_)
                  refine pe_iload_n (j := 2) (by decide +kernel) rfl ?_
                  have hx125 : (f124 3).toInt = (f116 3).toInt := (congrArg Int32.toInt (show f124 3 = (f116 3) from upf_fr ef124 (by decide))).trans rfl
                  have hx126 : (f124 5).toInt = (f116 5).toInt := (congrArg Int32.toInt (show f124 5 = (f116 5) from upf_fr ef124 (by decide))).trans rfl
                  have hx127 : (f124 8).toInt = (f116 8).toInt := (congrArg Int32.toInt (show f124 8 = (f116 8) from upf_fr ef124 (by decide))).trans rfl
                  exact pe_iret (by decide +kernel) rfl rfl ⟨f124, A117, rq115, rfl, hIf124, (fun k n3 n4 n5 n6 n7 n8 n9 => (upf_fr ef124 n9).trans ((hGq115 k n3 n4 n5 n6 n7 n8))), (fun k n148 => ((hFq115 k n148)).trans ((upa_fr eA112 n148).trans (upa_fr eA111 n148))), (by omega), ⟨(by omega), trivial⟩⟩
              · skip
                refine pe_vret (by decide +kernel) rfl ⟨rfl, rfl, ?_⟩
                show pmE pg X pg_tyl pg_cl (d + 4) 212 25 [.ref 147, .int x1, pm_dead] [] (md wc f A) _
                refine pe_aload_n (j := 0) (by decide +kernel) rfl ?_
                refine pe_iconstv (n := 0) (v := 0) (by decide +kernel) (by decide +kernel) ?_
                refine pe_bipushv (n := 8) (v := 8) (by decide +kernel) (by decide +kernel) ?_
                have hl128 := kz_0
                have hl129 := kz_8
                have hr_3_f := hI.1 3
                simp only [MF] at hr_3_f
                refine pz_callV (j := 130) (mj := 210) (by decide +kernel) (cll_V (args := [.int 8, .int 0]) (n := 2) (by decide +kernel) rfl rfl (md_o hc) (by decide +kernel) (Nat.le_of_ble_eq_true rfl) (Nat.le_of_ble_eq_true rfl)) (MM_210 hc hI (by decide +kernel) (by decide +kernel) (by omega)) (fun q130a q130b q130c q130d hqq130 => ?_)
                obtain ⟨f131, A132, rq130, eq130, hIq130, hGq130, hFq130, hX0q130, hX1q130, hX2q130, kq130⟩ := hqq130
                cases eq130
                refine ⟨rfl, rfl, ?_⟩
                have hr_3_f131 := hIq130.1 3
                simp only [MF] at hr_3_f131
                have hr_5_f131 := hIq130.1 5
                simp only [MF] at hr_5_f131
                have hr_8_f131 := hIq130.1 8
                simp only [MF] at hr_8_f131
                show pmE pg X pg_tyl pg_cl (d + 4) 212 32 [.ref 147, .int x1, pm_dead] [.int rq130] (md wc f131 A132) _
                refine pe_istore_n (j := 2) (ls' := [.ref 147, .int x1, .int rq130]) (by decide +kernel) (Nat.le_of_ble_eq_true rfl) rfl ?_
                refine pe_aload_n (j := 0) (by decide +kernel) rfl ?_
                refine pe_iload_n (j := 2) (by decide +kernel) rfl ?_
                refine pe_aload_n (j := 0) (by decide +kernel) rfl ?_
                refine pe_get (j := 134) (ci := 12) (n := 9) (by decide +kernel) (by decide +kernel) (md_o hc) rfl ?_
                refine pe_top (v := (f 9)) ((hGq130 9 (by decide) (by decide) (by decide) (by decide) (by decide) (by decide))) ?_
                have lw134 := zi_lo (f 9)
                have uw134 := zi_hi (f 9)
                refine pz_icmp_le (off := 7) (t := 46) (by decide +kernel) (by decide) rfl rfl rfl (fun h133 => ?_) (fun h133 => ?_)
                · skip
                  refine pe_aload_n (j := 0) (by decide +kernel) rfl ?_
                  refine pe_get (j := 134) (ci := 12) (n := 9) (by decide +kernel) (by decide +kernel) (md_o hc) rfl ?_
                  refine pe_top (v := (f 9)) ((hGq130 9 (by decide) (by decide) (by decide) (by decide) (by decide) (by decide))) ?_
                  refine mz_put9 (jj := 134) (by decide +kernel) (by decide +kernel) hc hIq130 (fun f135 ef135 hIf135 => ?_)
                  refine pe_iload_n (j := 2) (by decide +kernel) rfl ?_
                  have hx136 : (f135 3).toInt = (f131 3).toInt := (congrArg Int32.toInt (show f135 3 = (f131 3) from upf_fr ef135 (by decide))).trans rfl
                  have hx137 : (f135 5).toInt = (f131 5).toInt := (congrArg Int32.toInt (show f135 5 = (f131 5) from upf_fr ef135 (by decide))).trans rfl
                  have hx138 : (f135 8).toInt = (f131 8).toInt := (congrArg Int32.toInt (show f135 8 = (f131 8) from upf_fr ef135 (by decide))).trans rfl
                  exact pe_iret (by decide +kernel) rfl rfl ⟨f135, A132, rq130, rfl, hIf135, (fun k n3 n4 n5 n6 n7 n8 n9 => (upf_fr ef135 n9).trans ((hGq130 k n3 n4 n5 n6 n7 n8))), (fun k n148 => (hFq130 k n148)), (by omega), ⟨(by omega), trivial⟩⟩
                · skip
                  refine pe_iload_n (j := 2) (by decide +kernel) rfl ?_
                  refine pe_goto (off := 7) (t := 50) (by decide +kernel) (by decide) rfl ?_
                  refine mz_put9 (jj := 134) (by decide +kernel) (by decide +kernel) hc hIq130 (fun f139 ef139 hIf139 => ?_)
                  refine pe_iload_n (j := 2) (by decide +kernel) rfl ?_
                  have hx140 : (f139 3).toInt = (f131 3).toInt := (congrArg Int32.toInt (show f139 3 = (f131 3) from upf_fr ef139 (by decide))).trans rfl
                  have hx141 : (f139 5).toInt = (f131 5).toInt := (congrArg Int32.toInt (show f139 5 = (f131 5) from upf_fr ef139 (by decide))).trans rfl
                  have hx142 : (f139 8).toInt = (f131 8).toInt := (congrArg Int32.toInt (show f139 8 = (f131 8) from upf_fr ef139 (by decide))).trans rfl
                  exact pe_iret (by decide +kernel) rfl rfl ⟨f139, A132, rq130, rfl, hIf139, (fun k n3 n4 n5 n6 n7 n8 n9 => (upf_fr ef139 n9).trans ((hGq130 k n3 n4 n5 n6 n7 n8))), (fun k n148 => (hFq130 k n148)), (by omega), ⟨(by omega), trivial⟩⟩
