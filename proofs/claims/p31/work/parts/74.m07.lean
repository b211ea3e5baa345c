set_option maxRecDepth 100000 in
set_option maxHeartbeats 8000000 in
theorem MM_214 {X : pm_X} {d : Nat} {wc : pm_W} {f : Nat → Int32} {A : Nat → List Int32} (hc : wc.length = 147) (hI : MI f A) : pmE pg X pg_tyl pg_cl (d + 3) 214 0 (pm_ent (pm_max pg 214) [.ref 147]) [] (md wc f A) (fun q => ∃ (f' : Nat → Int32) (A' : Nat → List Int32), q = (none, md wc f' A', 0, 0) ∧ MI f' A' ∧ (∀ k : Nat, k ≠ 3 → k ≠ 4 → k ≠ 5 → k ≠ 6 → k ≠ 7 → k ≠ 8 → f' k = f k) ∧ (∀ k : Nat, k ≠ 148 → A' k = A k) ∧ ((-5) * (f' 3).toInt + (f' 5).toInt + (-5000) * (f' 8).toInt + 5 * (f 3).toInt + (-1) * (f 5).toInt + 4999 * (f 8).toInt + 1) ≤ 0 ∧ ((True))) := by
  show pmE pg X pg_tyl pg_cl (d + 3) 214 0 [.ref 147] [] (md wc f A) _
  refine pe_aload_n (j := 0) (by decide +kernel) rfl ?_
  refine pe_get (j := 112) (ci := 12) (n := 8) (by decide +kernel) (by decide +kernel) (md_o hc) rfl ?_
  have hr_8_f := hI.1 8
  simp only [MF] at hr_8_f
  refine pz_if_ne (off := 18) (t := 22) (by decide +kernel) (by decide) rfl rfl (fun h1 => ?_) (fun h1 => ?_)
  · skip
    refine pe_aload_n (j := 0) (by decide +kernel) rfl ?_
    refine pi_V (j := 116) (mj := 209) (by decide +kernel) (cll_V (args := []) (n := 0) (by decide +kernel) rfl rfl (md_o hc) (by decide +kernel) (Nat.le_of_ble_eq_true rfl) (Nat.le_of_ble_eq_true rfl)) ?_
    show pmE pg X pg_tyl pg_cl (d + 2) 209 0 [.ref 147] [] (md wc f A) _
    refine pe_aload_n (j := 0) (by decide +kernel) rfl ?_
    refine pe_get (j := 112) (ci := 12) (n := 8) (by decide +kernel) (by decide +kernel) (md_o hc) rfl ?_
    refine pz_if_eq (off := 4) (t := 8) (by decide +kernel) (by decide) rfl rfl (fun h2 => by omega) (fun h2 => ?_)
    refine pe_vret (by decide +kernel) rfl ⟨rfl, rfl, ?_⟩
    show pmE pg X pg_tyl pg_cl (d + 3) 214 26 [.ref 147] [] (md wc f A) _
    have hr_3_f := hI.1 3
    simp only [MF] at hr_3_f
    have hr_5_f := hI.1 5
    simp only [MF] at hr_5_f
    exact pe_vret (by decide +kernel) rfl ⟨f, A, rfl, hI, (fun k n3 n4 n5 n6 n7 n8 => rfl), (fun k n148 => rfl), (by omega), trivial⟩
  · skip
    refine pe_aload_n (j := 0) (by decide +kernel) rfl ?_
    refine pe_get (j := 93) (ci := 12) (n := 5) (by decide +kernel) (by decide +kernel) (md_o hc) rfl ?_
    have hr_5_f := hI.1 5
    simp only [MF] at hr_5_f
    refine pe_iconstv (n := 2) (v := 2) (by decide +kernel) (by decide +kernel) ?_
    refine pz_icmp_ne (off := 10) (t := 22) (by decide +kernel) (by decide) rfl rfl kz_2 (fun h3 => ?_) (fun h3 => ?_)
    · skip
      refine pe_aload_n (j := 0) (by decide +kernel) rfl ?_
      refine pi_V (j := 116) (mj := 209) (by decide +kernel) (cll_V (args := []) (n := 0) (by decide +kernel) rfl rfl (md_o hc) (by decide +kernel) (Nat.le_of_ble_eq_true rfl) (Nat.le_of_ble_eq_true rfl)) ?_
      show pmE pg X pg_tyl pg_cl (d + 2) 209 0 [.ref 147] [] (md wc f A) _
      refine pe_aload_n (j := 0) (by decide +kernel) rfl ?_
      refine pe_get (j := 112) (ci := 12) (n := 8) (by decide +kernel) (by decide +kernel) (md_o hc) rfl ?_
      refine pz_if_eq (off := 4) (t := 8) (by decide +kernel) (by decide) rfl rfl (fun h4 => ?_) (fun h4 => by omega)
      refine pe_aload_n (j := 0) (by decide +kernel) rfl ?_
      refine pe_iconstv (n := 1) (v := 1) (by decide +kernel) (by decide +kernel) ?_
      refine mz_put8 (jj := 112) (by decide +kernel) (by decide +kernel) hc hI (by decide +kernel) (by decide +kernel) (by decide +kernel) (fun f5 ef5 hIf5 => ?_)
      refine pe_aload_n (j := 0) (by decide +kernel) rfl ?_
      refine pe_get (j := 7) (ci := 12) (n := 0) (by decide +kernel) (by decide +kernel) (md_o hc) rfl ?_
      refine pe_iconstv (n := 3) (v := 3) (by decide +kernel) (by decide +kernel) ?_
      refine pe_iconstv (n := 1) (v := 1) (by decide +kernel) (by decide +kernel) ?_
      refine mz_st148 (by decide +kernel) hc hIf5 kz_3 (by omega) (by omega) (by rw [kz_1]; simp only [MT]; omega) (fun A6 eA6 hIA6 => ?_)
      refine pe_aload_n (j := 0) (by decide +kernel) rfl ?_
      refine pe_get (j := 7) (ci := 12) (n := 0) (by decide +kernel) (by decide +kernel) (md_o hc) rfl ?_
      refine pe_iconstv (n := 4) (v := 4) (by decide +kernel) (by decide +kernel) ?_
      refine pe_aload_n (j := 0) (by decide +kernel) rfl ?_
      refine pe_get (j := 90) (ci := 12) (n := 4) (by decide +kernel) (by decide +kernel) (md_o hc) rfl ?_
      refine pe_top (v := (f 4)) (upf_fr ef5 (by decide)) ?_
      refine mz_st148 (by decide +kernel) hc hIA6 kz_4 (by omega) (by omega) (by simp only [MT]; omega) (fun A7 eA7 hIA7 => ?_)
      refine pe_vret (by decide +kernel) rfl ⟨rfl, rfl, ?_⟩
      show pmE pg X pg_tyl pg_cl (d + 3) 214 26 [.ref 147] [] (md wc f5 A7) _
      have hr_3_f := hI.1 3
      simp only [MF] at hr_3_f
      have hx8 : (f5 3).toInt = (f 3).toInt := (congrArg Int32.toInt (show f5 3 = (f 3) from upf_fr ef5 (by decide))).trans rfl
      have hx9 : (f5 5).toInt = (f 5).toInt := (congrArg Int32.toInt (show f5 5 = (f 5) from upf_fr ef5 (by decide))).trans rfl
      have hx10 : (f5 8).toInt = 1 := (congrArg Int32.toInt (show f5 8 = 1 from upf_at ef5)).trans kz_1
      exact pe_vret (by decide +kernel) rfl ⟨f5, A7, rfl, hIA7, (fun k n3 n4 n5 n6 n7 n8 => upf_fr ef5 n8), (fun k n148 => (upa_fr eA7 n148).trans (upa_fr eA6 n148)), (by omega), trivial⟩
    · skip
      refine pe_aload_n (j := 0) (by decide +kernel) rfl ?_
      have hr_3_f := hI.1 3
      simp only [MF] at hr_3_f
      refine pz_callV (j := 127) (mj := 201) (by decide +kernel) (cll_V (args := []) (n := 0) (by decide +kernel) rfl rfl (md_o hc) (by decide +kernel) (Nat.le_of_ble_eq_true rfl) (Nat.le_of_ble_eq_true rfl)) (MM_201 hc hI) (fun q11a q11b q11c q11d hqq11 => ?_)
      obtain ⟨f12, eq11, hIq11, hGq11, hX0q11, kq11⟩ := hqq11
      cases eq11
      refine ⟨rfl, rfl, ?_⟩
      have hr_5_f12 := hIq11.1 5
      simp only [MF] at hr_5_f12
      have hr_3_f12 := hIq11.1 3
      simp only [MF] at hr_3_f12
      show pmE pg X pg_tyl pg_cl (d + 3) 214 19 [.ref 147] [] (md wc f12 A) _
      refine pe_goto (off := 7) (t := 26) (by decide +kernel) (by decide) rfl ?_
      have hx13 : (f12 8).toInt = (f 8).toInt := (congrArg Int32.toInt (show f12 8 = (f 8) from (hGq11 8 (by decide) (by decide) (by decide) (by decide) (by decide)))).trans rfl
      exact pe_vret (by decide +kernel) rfl ⟨f12, A, rfl, hIq11, (fun k n3 n4 n5 n6 n7 n8 => (hGq11 k n3 n4 n5 n6 n7)), (fun k n148 => rfl), (by omega), trivial⟩
set_option maxRecDepth 100000 in
set_option maxHeartbeats 8000000 in
theorem MM_208 {X : pm_X} {d : Nat} {wc : pm_W} {f : Nat → Int32} {A : Nat → List Int32} {x1 x2 : Int32} (hc : wc.length = 147) (hI : MI f A) : pmE pg X pg_tyl pg_cl (d + 3) 208 0 (pm_ent (pm_max pg 208) [.ref 147, .int x1, .int x2]) [] (md wc f A) (fun q => ∃ (f' : Nat → Int32) (A' : Nat → List Int32) (r : Int32), q = (some (.int r), md wc f' A', 0, 0) ∧ MI f' A' ∧ (∀ k : Nat, k ≠ 3 → k ≠ 4 → k ≠ 5 → k ≠ 6 → k ≠ 7 → k ≠ 8 → f' k = f k) ∧ (∀ k : Nat, k ≠ 148 → A' k = A k) ∧ ((-5) * (f' 3).toInt + (f' 5).toInt + (-5000) * (f' 8).toInt + 5 * (f 3).toInt + (-1) * (f 5).toInt + 4999 * (f 8).toInt + 1) ≤ 0 ∧ ((True ∧ True))) := by
  show pmE pg X pg_tyl pg_cl (d + 3) 208 0 [.ref 147, .int x1, .int x2, pm_dead] [] (md wc f A) _
  refine pe_aload_n (j := 0) (by decide +kernel) rfl ?_
  refine pe_get (j := 112) (ci := 12) (n := 8) (by decide +kernel) (by decide +kernel) (md_o hc) rfl ?_
  have hr_8_f := hI.1 8
  simp only [MF] at hr_8_f
  refine pz_if_ne (off := 23) (t := 27) (by decide +kernel) (by decide) rfl rfl (fun h1 => ?_) (fun h1 => ?_)
  · skip
    refine pe_aload_n (j := 0) (by decide +kernel) rfl ?_
    refine pi_V (j := 116) (mj := 209) (by decide +kernel) (cll_V (args := []) (n := 0) (by decide +kernel) rfl rfl (md_o hc) (by decide +kernel) (Nat.le_of_ble_eq_true rfl) (Nat.le_of_ble_eq_true rfl)) ?_
    show pmE pg X pg_tyl pg_cl (d + 2) 209 0 [.ref 147] [] (md wc f A) _
    refine pe_aload_n (j := 0) (by decide +kernel) rfl ?_
    refine pe_get (j := 112) (ci := 12) (n := 8) (by decide +kernel) (by decide +kernel) (md_o hc) rfl ?_
    refine pz_if_eq (off := 4) (t := 8) (by decide +kernel) (by decide) rfl rfl (fun h2 => by omega) (fun h2 => ?_)
    refine pe_vret (by decide +kernel) rfl ⟨rfl, rfl, ?_⟩
    show pmE pg X pg_tyl pg_cl (d + 3) 208 31 [.ref 147, .int x1, .int x2, pm_dead] [] (md wc f A) _
    refine pe_iconstv (n := 0) (v := 0) (by decide +kernel) (by decide +kernel) ?_
    have hr_3_f := hI.1 3
    simp only [MF] at hr_3_f
    have hr_5_f := hI.1 5
    simp only [MF] at hr_5_f
    exact pe_iret (by decide +kernel) rfl rfl ⟨f, A, 0, rfl, hI, (fun k n3 n4 n5 n6 n7 n8 => rfl), (fun k n148 => rfl), (by omega), ⟨trivial, trivial⟩⟩
  · skip
    refine pe_aload_n (j := 0) (by decide +kernel) rfl ?_
    refine pe_get (j := 93) (ci := 12) (n := 5) (by decide +kernel) (by decide +kernel) (md_o hc) rfl ?_
    have hr_5_f := hI.1 5
    simp only [MF] at hr_5_f
    refine pe_iconstv (n := 3) (v := 3) (by decide +kernel) (by decide +kernel) ?_
    refine pz_icmp_ne (off := 15) (t := 27) (by decide +kernel) (by decide) rfl rfl kz_3 (fun h3 => ?_) (fun h3 => ?_)
    · skip
      refine pe_aload_n (j := 0) (by decide +kernel) rfl ?_
      refine pi_V (j := 116) (mj := 209) (by decide +kernel) (cll_V (args := []) (n := 0) (by decide +kernel) rfl rfl (md_o hc) (by decide +kernel) (Nat.le_of_ble_eq_true rfl) (Nat.le_of_ble_eq_true rfl)) ?_
      show pmE pg X pg_tyl pg_cl (d + 2) 209 0 [.ref 147] [] (md wc f A) _
      refine pe_aload_n (j := 0) (by decide +kernel) rfl ?_
      refine pe_get (j := 112) (ci := 12) (n := 8) (by decide +kernel) (by decide +kernel) (md_o hc) rfl ?_
      refine pz_if_eq (off := 4) (t := 8) (by decide +kernel) (by decide) rfl rfl (fun h4 => ?_) (fun h4 => by omega)
      refine pe_aload_n (j := 0) (by decide +kernel) rfl ?_
      refine pe_iconstv (n := 1) (v := 1) (by decide +kernel) (by decide +kernel) ?_
      refine mz_put8 (jj := 112) (by decide +kernel) (by decide +kernel) hc hI (by decide +kernel) (by decide +kernel) (by decide +kernel) (fun f5 ef5 hIf5 => ?_)
      refine pe_aload_n (j := 0) (by decide +kernel) rfl ?_
      refine pe_get (j := 7) (ci := 12) (n := 0) (by decide +kernel) (by decide +kernel) (md_o hc) rfl ?_
      refine pe_iconstv (n := 3) (v := 3) (by decide +kernel) (by decide +kernel) ?_
      refine pe_iconstv (n := 1) (v := 1) (by decide +kernel) (by decide +kernel) ?_
      refine mz_st148 (by decide +kernel) hc hIf5 kz_3 (by omega) (by omega) (by rw [kz_1]; simp only [MT]; omega) (fun A6 eA6 hIA6 => ?_)
      refine pe_aload_n (j := 0) (by decide +kernel) rfl ?_
      refine pe_get (j := 7) (ci := 12) (n := 0) (by decide +kernel) (by decide +kernel) (md_o hc) rfl ?_
      refine pe_iconstv (n := 4) (v := 4) (by decide +kernel) (by decide +kernel) ?_
      refine pe_aload_n (j := 0) (by decide +kernel) rfl ?_
      refine pe_get (j := 90) (ci := 12) (n := 4) (by decide +kernel) (by decide +kernel) (md_o hc) rfl ?_
      refine pe_top (v := (f 4)) (upf_fr ef5 (by decide)) ?_
      refine mz_st148 (by decide +kernel) hc hIA6 kz_4 (by omega) (by omega) (by simp only [MT]; omega) (fun A7 eA7 hIA7 => ?_)
      refine pe_vret (by decide +kernel) rfl ⟨rfl, rfl, ?_⟩
      show pmE pg X pg_tyl pg_cl (d + 3) 208 31 [.ref 147, .int x1, .int x2, pm_dead] [] (md wc f5 A7) _
      refine pe_iconstv (n := 0) (v := 0) (by decide +kernel) (by decide +kernel) ?_
      have hr_3_f := hI.1 3
      simp only [MF] at hr_3_f
      have hx8 : (f5 3).toInt = (f 3).toInt := (congrArg Int32.toInt (show f5 3 = (f 3) from upf_fr ef5 (by decide))).trans rfl
      have hx9 : (f5 5).toInt = (f 5).toInt := (congrArg Int32.toInt (show f5 5 = (f 5) from upf_fr ef5 (by decide))).trans rfl
      have hx10 : (f5 8).toInt = 1 := (congrArg Int32.toInt (show f5 8 = 1 from upf_at ef5)).trans kz_1
      exact pe_iret (by decide +kernel) rfl rfl ⟨f5, A7, 0, rfl, hIA7, (fun k n3 n4 n5 n6 n7 n8 => upf_fr ef5 n8), (fun k n148 => (upa_fr eA7 n148).trans (upa_fr eA6 n148)), (by omega), ⟨trivial, trivial⟩⟩
    · skip
      refine pe_aload_n (j := 0) (by decide +kernel) rfl ?_
      refine pe_get (j := 103) (ci := 12) (n := 7) (by decide +kernel) (by decide +kernel) (md_o hc) rfl ?_
      refine pe_iload_n (j := 1) (by decide +kernel) rfl ?_
      refine pe_iload_n (j := 2) (by decide +kernel) rfl ?_
      refine pi_S (j := 119) (mj := 199) (by decide +kernel) (by decide +kernel) rfl ?_
      show pmE pg X pg_tyl pg_cl (d + 2) 199 0 [.int (f 7), .int x1, .int x2] [] (md wc f A) _
      refine pe_iload_n (j := 0) (by decide +kernel) rfl ?_
      refine pe_iload_n (j := 1) (by decide +kernel) rfl ?_
      have lw12 := zi_lo (f 7)
      have uw12 := zi_hi (f 7)
      have lw13 := zi_lo x1
      have uw13 := zi_hi x1
      refine pz_icmp_lt (off := 12) (t := 14) (by decide +kernel) (by decide) rfl rfl rfl (fun h11 => ?_) (fun h11 => ?_)
      · skip
        refine pe_iconstv (n := 0) (v := 0) (by decide +kernel) (by decide +kernel) ?_
        refine pe_iret (by decide +kernel) rfl rfl ⟨rfl, rfl, ?_⟩
        show pmE pg X pg_tyl pg_cl (d + 3) 208 24 [.ref 147, .int x1, .int x2, pm_dead] [.int 0] (md wc f A) _
        refine pz_if_ne (off := 9) (t := 33) (by decide +kernel) (by decide) rfl kz_0 (fun h14 => by omega) (fun h14 => ?_)
        refine pe_aload_n (j := 0) (by decide +kernel) rfl ?_
        refine pi_V (j := 116) (mj := 209) (by decide +kernel) (cll_V (args := []) (n := 0) (by decide +kernel) rfl rfl (md_o hc) (by decide +kernel) (Nat.le_of_ble_eq_true rfl) (Nat.le_of_ble_eq_true rfl)) ?_
        show pmE pg X pg_tyl pg_cl (d + 2) 209 0 [.ref 147] [] (md wc f A) _
        refine pe_aload_n (j := 0) (by decide +kernel) rfl ?_
        refine pe_get (j := 112) (ci := 12) (n := 8) (by decide +kernel) (by decide +kernel) (md_o hc) rfl ?_
        refine pz_if_eq (off := 4) (t := 8) (by decide +kernel) (by decide) rfl rfl (fun h15 => ?_) (fun h15 => by omega)
        refine pe_aload_n (j := 0) (by decide +kernel) rfl ?_
        refine pe_iconstv (n := 1) (v := 1) (by decide +kernel) (by decide +kernel) ?_
        refine mz_put8 (jj := 112) (by decide +kernel) (by decide +kernel) hc hI (by decide +kernel) (by decide +kernel) (by decide +kernel) (fun f16 ef16 hIf16 => ?_)
        refine pe_aload_n (j := 0) (by decide +kernel) rfl ?_
        refine pe_get (j := 7) (ci := 12) (n := 0) (by decide +kernel) (by decide +kernel) (md_o hc) rfl ?_
        refine pe_iconstv (n := 3) (v := 3) (by decide +kernel) (by decide +kernel) ?_
        refine pe_iconstv (n := 1) (v := 1) (by decide +kernel) (by decide +kernel) ?_
        refine mz_st148 (by decide +kernel) hc hIf16 kz_3 (by omega) (by omega) (by rw [kz_1]; simp only [MT]; omega) (fun A17 eA17 hIA17 => ?_)
        refine pe_aload_n (j := 0) (by decide +kernel) rfl ?_
        refine pe_get (j := 7) (ci := 12) (n := 0) (by decide +kernel) (by decide +kernel) (md_o hc) rfl ?_
        refine pe_iconstv (n := 4) (v := 4) (by decide +kernel) (by decide +kernel) ?_
        refine pe_aload_n (j := 0) (by decide +kernel) rfl ?_
        refine pe_get (j := 90) (ci := 12) (n := 4) (by decide +kernel) (by decide +kernel) (md_o hc) rfl ?_
        refine pe_top (v := (f 4)) (upf_fr ef16 (by decide)) ?_
        refine mz_st148 (by decide +kernel) hc hIA17 kz_4 (by omega) (by omega) (by simp only [MT]; omega) (fun A18 eA18 hIA18 => ?_)
        refine pe_vret (by decide +kernel) rfl ⟨rfl, rfl, ?_⟩
        show pmE pg X pg_tyl pg_cl (d + 3) 208 31 [.ref 147, .int x1, .int x2, pm_dead] [] (md wc f16 A18) _
        refine pe_iconstv (n := 0) (v := 0) (by decide +kernel) (by decide +kernel) ?_
        have hr_3_f := hI.1 3
        simp only [MF] at hr_3_f
        have hx19 : (f16 3).toInt = (f 3).toInt := (congrArg Int32.toInt (show f16 3 = (f 3) from upf_fr ef16 (by decide))).trans rfl
        have hx20 : (f16 5).toInt = (f 5).toInt := (congrArg Int32.toInt (show f16 5 = (f 5) from upf_fr ef16 (by decide))).trans rfl
        have hx21 : (f16 8).toInt = 1 := (congrArg Int32.toInt (show f16 8 = 1 from upf_at ef16)).trans kz_1
        exact pe_iret (by decide +kernel) rfl rfl ⟨f16, A18, 0, rfl, hIA18, (fun k n3 n4 n5 n6 n7 n8 => upf_fr ef16 n8), (fun k n148 => (upa_fr eA18 n148).trans (upa_fr eA17 n148)), (by omega), ⟨trivial, trivial⟩⟩
      · skip
        refine pe_iload_n (j := 0) (by decide +kernel) rfl ?_
        refine pe_iload_n (j := 2) (by decide +kernel) rfl ?_
        have lw23 := zi_lo x2
        have uw23 := zi_hi x2
        refine pz_icmp_gt (off := 7) (t := 14) (by decide +kernel) (by decide) rfl rfl rfl (fun h22 => ?_) (fun h22 => ?_)
        · skip
          refine pe_iconstv (n := 0) (v := 0) (by decide +kernel) (by decide +kernel) ?_
          refine pe_iret (by decide +kernel) rfl rfl ⟨rfl, rfl, ?_⟩
          show pmE pg X pg_tyl pg_cl (d + 3) 208 24 [.ref 147, .int x1, .int x2, pm_dead] [.int 0] (md wc f A) _
          refine pz_if_ne (off := 9) (t := 33) (by decide +kernel) (by decide) rfl kz_0 (fun h24 => by omega) (fun h24 => ?_)
          refine pe_aload_n (j := 0) (by decide +kernel) rfl ?_
          refine pi_V (j := 116) (mj := 209) (by decide +kernel) (cll_V (args := []) (n := 0) (by decide +kernel) rfl rfl (md_o hc) (by decide +kernel) (Nat.le_of_ble_eq_true rfl) (Nat.le_of_ble_eq_true rfl)) ?_
          show pmE pg X pg_tyl pg_cl (d + 2) 209 0 [.ref 147] [] (md wc f A) _
          refine pe_aload_n (j := 0) (by decide +kernel) rfl ?_
          refine pe_get (j := 112) (ci := 12) (n := 8) (by decide +kernel) (by decide +kernel) (md_o hc) rfl ?_
          refine pz_if_eq (off := 4) (t := 8) (by decide +kernel) (by decide) rfl rfl (fun h25 => ?_) (fun h25 => by omega)
          refine pe_aload_n (j := 0) (by decide +kernel) rfl ?_
          refine pe_iconstv (n := 1) (v := 1) (by decide +kernel) (by decide +kernel) ?_
          refine mz_put8 (jj := 112) (by decide +kernel) (by decide +kernel) hc hI (by decide +kernel) (by decide +kernel) (by decide +kernel) (fun f26 ef26 hIf26 => ?_)
          refine pe_aload_n (j := 0) (by decide +kernel) rfl ?_
          refine pe_get (j := 7) (ci := 12) (n := 0) (by decide +kernel) (by decide +kernel) (md_o hc) rfl ?_
          refine pe_iconstv (n := 3) (v := 3) (by decide +kernel) (by decide +kernel) ?_
          refine pe_iconstv (n := 1) (v := 1) (by decide +kernel) (by decide +kernel) ?_
          refine mz_st148 (by decide +kernel) hc hIf26 kz_3 (by omega) (by omega) (by rw [kz_1]; simp only [MT]; omega) (fun A27 eA27 hIA27 => ?_)
          refine pe_aload_n (j := 0) (by decide +kernel) rfl ?_
          refine pe_get (j := 7) (ci := 12) (n := 0) (by decide +kernel) (by decide +kernel) (md_o hc) rfl ?_
          refine pe_iconstv (n := 4) (v := 4) (by decide +kernel) (by decide +kernel) ?_
          refine pe_aload_n (j := 0) (by decide +kernel) rfl ?_
          refine pe_get (j := 90) (ci := 12) (n := 4) (by decide +kernel) (by decide +kernel) (md_o hc) rfl ?_
          refine pe_top (v := (f 4)) (upf_fr ef26 (by decide)) ?_
          refine mz_st148 (by decide +kernel) hc hIA27 kz_4 (by omega) (by omega) (by simp only [MT]; omega) (fun A28 eA28 hIA28 => ?_)
          refine pe_vret (by decide +kernel) rfl ⟨rfl, rfl, ?_⟩
          show pmE pg X pg_tyl pg_cl (d + 3) 208 31 [.ref 147, .int x1, .int x2, pm_dead] [] (md wc f26 A28) _
          refine pe_iconstv (n := 0) (v := 0) (by decide +kernel) (by decide +kernel) ?_
          have hr_3_f := hI.1 3
          simp only [MF] at hr_3_f
          have hx29 : (f26 3).toInt = (f 3).toInt := (congrArg Int32.toInt (show f26 3 = (f 3) from upf_fr ef26 (by decide))).trans rfl
          have hx30 : (f26 5).toInt = (f 5).toInt := (congrArg Int32.toInt (show f26 5 = (f 5) from upf_fr ef26 (by decide))).trans rfl
          have hx31 : (f26 8).toInt = 1 := (congrArg Int32.toInt (show f26 8 = 1 from upf_at ef26)).trans kz_1
          exact pe_iret (by decide +kernel) rfl rfl ⟨f26, A28, 0, rfl, hIA28, (fun k n3 n4 n5 n6 n7 n8 => upf_fr ef26 n8), (fun k n148 => (upa_fr eA28 n148).trans (upa_fr eA27 n148)), (by omega), ⟨trivial, trivial⟩⟩
        · skip
          refine pe_iconstv (n := 1) (v := 1) (by decide +kernel) (by decide +kernel) ?_
          refine pe_goto (off := 4) (t := 15) (by decide +kernel) (by decide) rfl ?_
          refine pe_iret (by decide +kernel) rfl rfl ⟨rfl, rfl, ?_⟩
          show pmE pg X pg_tyl pg_cl (d + 3) 208 24 [.ref 147, .int x1, .int x2, pm_dead] [.int 1] (md wc f A) _
          refine pz_if_ne (off := 9) (t := 33) (by decide +kernel) (by decide) rfl kz_1 (fun h32 => ?_) (fun h32 => by omega)
          refine pe_aload_n (j := 0) (by decide +kernel) rfl ?_
          refine pe_get (j := 103) (ci := 12) (n := 7) (by decide +kernel) (by decide +kernel) (md_o hc) rfl ?_
          refine pe_istore_n (j := 3) (ls' := [.ref 147, .int x1, .int x2, .int (f 7)]) (by decide +kernel) (Nat.le_of_ble_eq_true rfl) rfl ?_
          refine pe_aload_n (j := 0) (by decide +kernel) rfl ?_
          have hr_3_f := hI.1 3
          simp only [MF] at hr_3_f
          refine pz_callV (j := 127) (mj := 201) (by decide +kernel) (cll_V (args := []) (n := 0) (by decide +kernel) rfl rfl (md_o hc) (by decide +kernel) (Nat.le_of_ble_eq_true rfl) (Nat.le_of_ble_eq_true rfl)) (MM_201 hc hI) (fun q33a q33b q33c q33d hqq33 => ?_)
          obtain ⟨f34, eq33, hIq33, hGq33, hX0q33, kq33⟩ := hqq33
          cases eq33
          refine ⟨rfl, rfl, ?_⟩
          have hr_5_f34 := hIq33.1 5
          simp only [MF] at hr_5_f34
          have hr_3_f34 := hIq33.1 3
          simp only [MF] at hr_3_f34
          show pmE pg X pg_tyl pg_cl (d + 3) 208 42 [.ref 147, .int x1, .int x2, .int (f 7)] [] (md wc f34 A) _
          refine pe_iload_n (j := 3) (by decide +kernel) rfl ?_
          have hx35 : (f34 8).toInt = (f 8).toInt := (congrArg Int32.toInt (show f34 8 = (f 8) from (hGq33 8 (by decide) (by decide) (by decide) (by decide) (by decide)))).trans rfl
          exact pe_iret (by decide +kernel) rfl rfl ⟨f34, A, (f 7), rfl, hIq33, (fun k n3 n4 n5 n6 n7 n8 => (hGq33 k n3 n4 n5 n6 n7)), (fun k n148 => rfl), (by omega), ⟨trivial, trivial⟩⟩
set_option maxRecDepth 100000 in
set_option maxHeartbeats 8000000 in
theorem MM_210 {X : pm_X} {d : Nat} {wc : pm_W} {f : Nat → Int32} {A : Nat → List Int32} {x1 x2 : Int32} (hc : wc.length = 147) (hI : MI f A) (gx1 : (0 ≤ x1.toInt ∧ x1.toInt ≤ 2)) (gx2 : (8 ≤ x2.toInt ∧ x2.toInt ≤ 100)) (hxp0 : (x1.toInt + (-1) * x2.toInt) ≤ 0) : pmE pg X pg_tyl pg_cl (d + 3) 210 0 (pm_ent (pm_max pg 210) [.ref 147, .int x1, .int x2]) [] (md wc f A) (fun q => ∃ (f' : Nat → Int32) (A' : Nat → List Int32) (r : Int32), q = (some (.int r), md wc f' A', 0, 0) ∧ MI f' A' ∧ (∀ k : Nat, k ≠ 3 → k ≠ 4 → k ≠ 5 → k ≠ 6 → k ≠ 7 → k ≠ 8 → f' k = f k) ∧ (∀ k : Nat, k ≠ 148 → A' k = A k) ∧ ((-5) * (f' 3).toInt + (f' 5).toInt + (-5000) * (f' 8).toInt + 5 * (f 3).toInt + (-1) * (f 5).toInt + 4999 * (f 8).toInt + 1) ≤ 0 ∧ ((-1) * r.toInt + x1.toInt) ≤ 0 ∧ (r.toInt + (-1) * x2.toInt) ≤ 0 ∧ (((0 ≤ r.toInt ∧ r.toInt ≤ 100) ∧ True))) := by
  show pmE pg X pg_tyl pg_cl (d + 3) 210 0 [.ref 147, .int x1, .int x2, pm_dead] [] (md wc f A) _
  refine pe_aload_n (j := 0) (by decide +kernel) rfl ?_
  refine pe_get (j := 112) (ci := 12) (n := 8) (by decide +kernel) (by decide +kernel) (md_o hc) rfl ?_
  have hr_8_f := hI.1 8
  simp only [MF] at hr_8_f
  refine pz_if_ne (off := 11) (t := 15) (by decide +kernel) (by decide) rfl rfl (fun h1 => ?_) (fun h1 => ?_)
  · skip
    refine pe_aload_n (j := 0) (by decide +kernel) rfl ?_
    refine pi_V (j := 116) (mj := 209) (by decide +kernel) (cll_V (args := []) (n := 0) (by decide +kernel) rfl rfl (md_o hc) (by decide +kernel) (Nat.le_of_ble_eq_true rfl) (Nat.le_of_ble_eq_true rfl)) ?_
    show pmE pg X pg_tyl pg_cl (d + 2) 209 0 [.ref 147] [] (md wc f A) _
    refine pe_aload_n (j := 0) (by decide +kernel) rfl ?_
    refine pe_get (j := 112) (ci := 12) (n := 8) (by decide +kernel) (by decide +kernel) (md_o hc) rfl ?_
    refine pz_if_eq (off := 4) (t := 8) (by decide +kernel) (by decide) rfl rfl (fun h2 => by omega) (fun h2 => ?_)
    refine pe_vret (by decide +kernel) rfl ⟨rfl, rfl, ?_⟩
    show pmE pg X pg_tyl pg_cl (d + 3) 210 19 [.ref 147, .int x1, .int x2, pm_dead] [] (md wc f A) _
    refine pe_iload_n (j := 1) (by decide +kernel) rfl ?_
    have hr_3_f := hI.1 3
    simp only [MF] at hr_3_f
    have hr_5_f := hI.1 5
    simp only [MF] at hr_5_f
    exact pe_iret (by decide +kernel) rfl rfl ⟨f, A, x1, rfl, hI, (fun k n3 n4 n5 n6 n7 n8 => rfl), (fun k n148 => rfl), (by omega), (by omega), (by omega), ⟨(by omega), trivial⟩⟩
  · skip
    refine pe_aload_n (j := 0) (by decide +kernel) rfl ?_
    refine pe_get (j := 93) (ci := 12) (n := 5) (by decide +kernel) (by decide +kernel) (md_o hc) rfl ?_
    have hr_5_f := hI.1 5
    simp only [MF] at hr_5_f
    refine pe_iconstv (n := 1) (v := 1) (by decide +kernel) (by decide +kernel) ?_
    refine pz_icmp_eq (off := 9) (t := 21) (by decide +kernel) (by decide) rfl rfl kz_1 (fun h3 => ?_) (fun h3 => ?_)
    · skip
      refine pe_aload_n (j := 0) (by decide +kernel) rfl ?_
      refine pe_get (j := 109) (ci := 12) (n := 6) (by decide +kernel) (by decide +kernel) (md_o hc) rfl ?_
      refine pe_istore_n (j := 3) (ls' := [.ref 147, .int x1, .int x2, .int (f 6)]) (by decide +kernel) (Nat.le_of_ble_eq_true rfl) rfl ?_
      refine pe_iload_n (j := 3) (by decide +kernel) rfl ?_
      refine pe_iload_n (j := 1) (by decide +kernel) rfl ?_
      refine pe_iload_n (j := 2) (by decide +kernel) rfl ?_
      refine pi_S (j := 119) (mj := 199) (by decide +kernel) (by decide +kernel) rfl ?_
      show pmE pg X pg_tyl pg_cl (d + 2) 199 0 [.int (f 6), .int x1, .int x2] [] (md wc f A) _
      refine pe_iload_n (j := 0) (by decide +kernel) rfl ?_
      refine pe_iload_n (j := 1) (by decide +kernel) rfl ?_
      have lw5 := zi_lo (f 6)
      have uw5 := zi_hi (f 6)
      refine pz_icmp_lt (off := 12) (t := 14) (by decide +kernel) (by decide) rfl rfl rfl (fun h4 => ?_) (fun h4 => ?_)
      · skip
        refine pe_iconstv (n := 0) (v := 0) (by decide +kernel) (by decide +kernel) ?_
        refine pe_iret (by decide +kernel) rfl rfl ⟨rfl, rfl, ?_⟩
        show pmE pg X pg_tyl pg_cl (d + 3) 210 32 [.ref 147, .int x1, .int x2, .int (f 6)] [.int 0] (md wc f A) _
        refine pz_if_ne (off := 12) (t := 44) (by decide +kernel) (by decide) rfl kz_0 (fun h6 => by omega) (fun h6 => ?_)
        refine pe_aload_n (j := 0) (by decide +kernel) rfl ?_
        refine pe_iconstv (n := 2) (v := 2) (by decide +kernel) (by decide +kernel) ?_
        refine pe_aload_n (j := 0) (by decide +kernel) rfl ?_
        refine pe_get (j := 90) (ci := 12) (n := 4) (by decide +kernel) (by decide +kernel) (md_o hc) rfl ?_
        refine pz_callV (j := 123) (mj := 211) (by decide +kernel) (cll_V (args := [.int (f 4), .int 2]) (n := 2) (by decide +kernel) rfl rfl (md_o hc) (by decide +kernel) (Nat.le_of_ble_eq_true rfl) (Nat.le_of_ble_eq_true rfl)) (MM_211 hc hI) (fun q7a q7b q7c q7d hqq7 => ?_)
        obtain ⟨A8, eq7, hIq7, hFq7, kq7⟩ := hqq7
        cases eq7
        refine ⟨rfl, rfl, ?_⟩
        show pmE pg X pg_tyl pg_cl (d + 3) 210 44 [.ref 147, .int x1, .int x2, .int (f 6)] [] (md wc f A8) _
        refine pe_aload_n (j := 0) (by decide +kernel) rfl ?_
        have hr_3_f := hI.1 3
        simp only [MF] at hr_3_f
        refine pz_callV (j := 127) (mj := 201) (by decide +kernel) (cll_V (args := []) (n := 0) (by decide +kernel) rfl rfl (md_o hc) (by decide +kernel) (Nat.le_of_ble_eq_true rfl) (Nat.le_of_ble_eq_true rfl)) (MM_201 hc hIq7) (fun q9a q9b q9c q9d hqq9 => ?_)
        obtain ⟨f10, eq9, hIq9, hGq9, hX0q9, kq9⟩ := hqq9
        cases eq9
        refine ⟨rfl, rfl, ?_⟩
        have hr_5_f10 := hIq9.1 5
        simp only [MF] at hr_5_f10
        have hr_3_f10 := hIq9.1 3
        simp only [MF] at hr_3_f10
        show pmE pg X pg_tyl pg_cl (d + 3) 210 48 [.ref 147, .int x1, .int x2, .int (f 6)] [] (md wc f10 A8) _
        refine pe_iload_n (j := 3) (by decide +kernel) rfl ?_
        refine pe_iload_n (j := 1) (by decide +kernel) rfl ?_
        refine pe_iload_n (j := 2) (by decide +kernel) rfl ?_
        refine pi_S (j := 119) (mj := 199) (by decide +kernel) (by decide +kernel) rfl ?_
        show pmE pg X pg_tyl pg_cl (d + 2) 199 0 [.int (f 6), .int x1, .int x2] [] (md wc f10 A8) _
        refine pe_iload_n (j := 0) (by decide +kernel) rfl ?_
        refine pe_iload_n (j := 1) (by decide +kernel) rfl ?_
        refine pz_icmp_lt (off := 12) (t := 14) (by decide +kernel) (by decide) rfl rfl rfl (fun h11 => ?_) (fun h11 => by omega)
        refine pe_iconstv (n := 0) (v := 0) (by decide +kernel) (by decide +kernel) ?_
        refine pe_iret (by decide +kernel) rfl rfl ⟨rfl, rfl, ?_⟩
        show pmE pg X pg_tyl pg_cl (d + 3) 210 54 [.ref 147, .int x1, .int x2, .int (f 6)] [.int 0] (md wc f10 A8) _
        refine pz_if_eq (off := 7) (t := 61) (by decide +kernel) (by decide) rfl kz_0 (fun h12 => ?_) (fun h12 => by omega)
        refine pe_iload_n (j := 1) (by decide +kernel) rfl ?_
        have hx13 : (f10 8).toInt = (f 8).toInt := (congrArg Int32.toInt (show f10 8 = (f 8) from (hGq9 8 (by decide) (by decide) (by decide) (by decide) (by decide)))).trans rfl
        exact pe_iret (by decide +kernel) rfl rfl ⟨f10, A8, x1, rfl, hIq9, (fun k n3 n4 n5 n6 n7 n8 => (hGq9 k n3 n4 n5 n6 n7)), (fun k n148 => (hFq7 k n148)), (by omega), (by omega), (by omega), ⟨(by omega), trivial⟩⟩
      · skip
        refine pe_iload_n (j := 0) (by decide +kernel) rfl ?_
        refine pe_iload_n (j := 2) (by decide +kernel) rfl ?_
        refine pz_icmp_gt (off := 7) (t := 14) (by decide +kernel) (by decide) rfl rfl rfl (fun h14 => ?_) (fun h14 => ?_)
        · skip
          refine pe_iconstv (n := 0) (v := 0) (by decide +kernel) (by decide +kernel) ?_
          refine pe_iret (by decide +kernel) rfl rfl ⟨rfl, rfl, ?_⟩
          show pmE pg X pg_tyl pg_cl (d + 3) 210 32 [.ref 147, .int x1, .int x2, .int (f 6)] [.int 0] (md wc f A) _
          refine pz_if_ne (off := 12) (t := 44) (by decide +kernel) (by decide) rfl kz_0 (fun h15 => by omega) (fun h15 => ?_)
          refine pe_aload_n (j := 0) (by decide +kernel) rfl ?_
          refine pe_iconstv (n := 2) (v := 2) (by decide +kernel) (by decide +kernel) ?_
          refine pe_aload_n (j := 0) (by decide +kernel) rfl ?_
          refine pe_get (j := 90) (ci := 12) (n := 4) (by decide +kernel) (by decide +kernel) (md_o hc) rfl ?_
          refine pz_callV (j := 123) (mj := 211) (by decide +kernel) (cll_V (args := [.int (f 4), .int 2]) (n := 2) (by decide +kernel) rfl rfl (md_o hc) (by decide +kernel) (Nat.le_of_ble_eq_true rfl) (Nat.le_of_ble_eq_true rfl)) (MM_211 hc hI) (fun q16a q16b q16c q16d hqq16 => ?_)
          obtain ⟨A17, eq16, hIq16, hFq16, kq16⟩ := hqq16
          cases eq16
          refine ⟨rfl, rfl, ?_⟩
          show pmE pg X pg_tyl pg_cl (d + 3) 210 44 [.ref 147, .int x1, .int x2, .int (f 6)] [] (md wc f A17) _
          refine pe_aload_n (j := 0) (by decide +kernel) rfl ?_
          have hr_3_f := hI.1 3
          simp only [MF] at hr_3_f
          refine pz_callV (j := 127) (mj := 201) (by decide +kernel) (cll_V (args := []) (n := 0) (by decide +kernel) rfl rfl (md_o hc) (by decide +kernel) (Nat.le_of_ble_eq_true rfl) (Nat.le_of_ble_eq_true rfl)) (MM_201 hc hIq16) (fun q18a q18b q18c q18d hqq18 => ?_)
          obtain ⟨f19, eq18, hIq18, hGq18, hX0q18, kq18⟩ := hqq18
          cases eq18
          refine ⟨rfl, rfl, ?_⟩
          have hr_5_f19 := hIq18.1 5
          simp only [MF] at hr_5_f19
          have hr_3_f19 := hIq18.1 3
          simp only [MF] at hr_3_f19
          show pmE pg X pg_tyl pg_cl (d + 3) 210 48 [.ref 147, .int x1, .int x2, .int (f 6)] [] (md wc f19 A17) _
          refine pe_iload_n (j := 3) (by decide +kernel) rfl ?_
          refine pe_iload_n (j := 1) (by decide +kernel) rfl ?_
          refine pe_iload_n (j := 2) (by decide +kernel) rfl ?_
          refine pi_S (j := 119) (mj := 199) (by decide +kernel) (by decide +kernel) rfl ?_
          show pmE pg X pg_tyl pg_cl (d + 2) 199 0 [.int (f 6), .int x1, .int x2] [] (md wc f19 A17) _
          refine pe_iload_n (j := 0) (by decide +kernel) rfl ?_
          refine pe_iload_n (j := 1) (by decide +kernel) rfl ?_
          refine pz_icmp_lt (off := 12) (t := 14) (by decide +kernel) (by decide) rfl rfl rfl (fun h20 => by omega) (fun h20 => ?_)
          refine pe_iload_n (j := 0) (by decide +kernel) rfl ?_
          refine pe_iload_n (j := 2) (by decide +kernel) rfl ?_
          refine pz_icmp_gt (off := 7) (t := 14) (by decide +kernel) (by decide) rfl rfl rfl (fun h21 => ?_) (fun h21 => ?_)
          · skip
            refine pe_iconstv (n := 0) (v := 0) (by decide +kernel) (by decide +kernel) ?_
            refine pe_iret (by decide +kernel) rfl rfl ⟨rfl, rfl, ?_⟩
            show pmE pg X pg_tyl pg_cl (d + 3) 210 54 [.ref 147, .int x1, .int x2, .int (f 6)] [.int 0] (md wc f19 A17) _
            refine pz_if_eq (off := 7) (t := 61) (by decide +kernel) (by decide) rfl kz_0 (fun h22 => ?_) (fun h22 => by omega)
            refine pe_iload_n (j := 1) (by decide +kernel) rfl ?_
            have hx23 : (f19 8).toInt = (f 8).toInt := (congrArg Int32.toInt (show f19 8 = (f 8) from (hGq18 8 (by decide) (by decide) (by decide) (by decide) (by decide)))).trans rfl
            exact pe_iret (by decide +kernel) rfl rfl ⟨f19, A17, x1, rfl, hIq18, (fun k n3 n4 n5 n6 n7 n8 => (hGq18 k n3 n4 n5 n6 n7)), (fun k n148 => (hFq16 k n148)), (by omega), (by omega), (by omega), ⟨(by omega), trivial⟩⟩
          · skip
            refine pe_iconstv (n := 1) (v := 1) (by decide +kernel) (by decide +kernel) ?_
            refine pe_goto (off := 4) (t := 15) (by decide +kernel) (by decide) rfl ?_
            refine pe_iret (by decide +kernel) rfl rfl ⟨rfl, rfl, ?_⟩
            show pmE pg X pg_tyl pg_cl (d + 3) 210 54 [.ref 147, .int x1, .int x2, .int (f 6)] [.int 1] (md wc f19 A17) _
            refine pz_if_eq (off := 7) (t := 61) (by decide +kernel) (by decide) rfl kz_1 (fun h24 => by omega) (fun h24 => ?_)
            refine pe_iload_n (j := 3) (by decide +kernel) rfl ?_
            refine pe_goto (off := 4) (t := 62) (by decide +kernel) (by decide) rfl ?_
            have hx25 : (f19 8).toInt = (f 8).toInt := (congrArg Int32.toInt (show f19 8 = (f 8) from (hGq18 8 (by decide) (by decide) (by decide) (by decide) (by decide)))).trans rfl
            exact pe_iret (by decide +kernel) rfl rfl ⟨f19, A17, (f 6), rfl, hIq18, (fun k n3 n4 n5 n6 n7 n8 => (hGq18 k n3 n4 n5 n6 n7)), (fun k n148 => (hFq16 k n148)), (by omega), (by omega), (by omega), ⟨(by omega), trivial⟩⟩
        · skip
          refine pe_iconstv (n := 1) (v := 1) (by decide +kernel) (by decide +kernel) ?_
          refine pe_goto (off := 4) (t := 15) (by decide +kernel) (by decide) rfl ?_
          refine pe_iret (by decide +kernel) rfl rfl ⟨rfl, rfl, ?_⟩
          show pmE pg X pg_tyl pg_cl (d + 3) 210 32 [.ref 147, .int x1, .int x2, .int (f 6)] [.int 1] (md wc f A) _
          refine pz_if_ne (off := 12) (t := 44) (by decide +kernel) (by decide) rfl kz_1 (fun h26 => ?_) (fun h26 => by omega)
          refine pe_aload_n (j := 0) (by decide +kernel) rfl ?_
          have hr_3_f := hI.1 3
          simp only [MF] at hr_3_f
          refine pz_callV (j := 127) (mj := 201) (by decide +kernel) (cll_V (args := []) (n := 0) (by decide +kernel) rfl rfl (md_o hc) (by decide +kernel) (Nat.le_of_ble_eq_true rfl) (Nat.le_of_ble_eq_true rfl)) (MM_201 hc hI) (fun q27a q27b q27c q27d hqq27 => ?_)
          obtain ⟨f28, eq27, hIq27, hGq27, hX0q27, kq27⟩ := hqq27
          cases eq27
          refine ⟨rfl, rfl, ?_⟩
          have hr_5_f28 := hIq27.1 5
          simp only [MF] at hr_5_f28
          have hr_3_f28 := hIq27.1 3
          simp only [MF] at hr_3_f28
          show pmE pg X pg_tyl pg_cl (d + 3) 210 48 [.ref 147, .int x1, .int x2, .int (f 6)] [] (md wc f28 A) _
          refine pe_iload_n (j := 3) (by decide +kernel) rfl ?_
          refine pe_iload_n (j := 1) (by decide +kernel) rfl ?_
          refine pe_iload_n (j := 2) (by decide +kernel) rfl ?_
          refine pi_S (j := 119) (mj := 199) (by decide +kernel) (by decide +kernel) rfl ?_
          show pmE pg X pg_tyl pg_cl (d + 2) 199 0 [.int (f 6), .int x1, .int x2] [] (md wc f28 A) _
          refine pe_iload_n (j := 0) (by decide +kernel) rfl ?_
          refine pe_iload_n (j := 1) (by decide +kernel) rfl ?_
          refine pz_icmp_lt (off := 12) (t := 14) (by decide +kernel) (by decide) rfl rfl rfl (fun h29 => by omega) (fun h29 => ?_)
          refine pe_iload_n (j := 0) (by decide +kernel) rfl ?_
          refine pe_iload_n (j := 2) (by decide +kernel) rfl ?_
          refine pz_icmp_gt (off := 7) (t := 14) (by decide +kernel) (by decide) rfl rfl rfl (fun h30 => ?_) (fun h30 => ?_)
          · skip
            refine pe_iconstv (n := 0) (v := 0) (by decide +kernel) (by decide +kernel) ?_
            refine pe_iret (by decide +kernel) rfl rfl ⟨rfl, rfl, ?_⟩
            show pmE pg X pg_tyl pg_cl (d + 3) 210 54 [.ref 147, .int x1, .int x2, .int (f 6)] [.int 0] (md wc f28 A) _
            refine pz_if_eq (off := 7) (t := 61) (by decide +kernel) (by decide) rfl kz_0 (fun h31 => ?_) (fun h31 => by omega)
            refine pe_iload_n (j := 1) (by decide +kernel) rfl ?_
            have hx32 : (f28 8).toInt = (f 8).toInt := (congrArg Int32.toInt (show f28 8 = (f 8) from (hGq27 8 (by decide) (by decide) (by decide) (by decide) (by decide)))).trans rfl
            exact pe_iret (by decide +kernel) rfl rfl ⟨f28, A, x1, rfl, hIq27, (fun k n3 n4 n5 n6 n7 n8 => (hGq27 k n3 n4 n5 n6 n7)), (fun k n148 => rfl), (by omega), (by omega), (by omega), ⟨(by omega), trivial⟩⟩
          · skip
            refine pe_iconstv (n := 1) (v := 1) (by decide +kernel) (by decide +kernel) ?_
            refine pe_goto (off := 4) (t := 15) (by decide +kernel) (by decide) rfl ?_
            refine pe_iret (by decide +kernel) rfl rfl ⟨rfl, rfl, ?_⟩
            show pmE pg X pg_tyl pg_cl (d + 3) 210 54 [.ref 147, .int x1, .int x2, .int (f 6)] [.int 1] (md wc f28 A) _
            refine pz_if_eq (off := 7) (t := 61) (by decide +kernel) (by decide) rfl kz_1 (fun h33 => by omega) (fun h33 => ?_)
            refine pe_iload_n (j := 3) (by decide +kernel) rfl ?_
            refine pe_goto (off := 4) (t := 62) (by decide +kernel) (by decide) rfl ?_
            have hx34 : (f28 8).toInt = (f 8).toInt := (congrArg Int32.toInt (show f28 8 = (f 8) from (hGq27 8 (by decide) (by decide) (by decide) (by decide) (by decide)))).trans rfl
            exact pe_iret (by decide +kernel) rfl rfl ⟨f28, A, (f 6), rfl, hIq27, (fun k n3 n4 n5 n6 n7 n8 => (hGq27 k n3 n4 n5 n6 n7)), (fun k n148 => rfl), (by omega), (by omega), (by omega), ⟨(by omega), trivial⟩⟩
    · skip
      refine pe_aload_n (j := 0) (by decide +kernel) rfl ?_
      refine pi_V (j := 116) (mj := 209) (by decide +kernel) (cll_V (args := []) (n := 0) (by decide +kernel) rfl rfl (md_o hc) (by decide +kernel) (Nat.le_of_ble_eq_true rfl) (Nat.le_of_ble_eq_true rfl)) ?_
      show pmE pg X pg_tyl pg_cl (d + 2) 209 0 [.ref 147] [] (md wc f A) _
      refine pe_aload_n (j := 0) (by decide +kernel) rfl ?_
      refine pe_get (j := 112) (ci := 12) (n := 8) (by decide +kernel) (by decide +kernel) (md_o hc) rfl ?_
      refine pz_if_eq (off := 4) (t := 8) (by decide +kernel) (by decide) rfl rfl (fun h35 => ?_) (fun h35 => by omega)
      refine pe_aload_n (j := 0) (by decide +kernel) rfl ?_
      refine pe_iconstv (n := 1) (v := 1) (by decide +kernel) (by decide +kernel) ?_
      refine mz_put8 (jj := 112) (by decide +kernel) (by decide +kernel) hc hI (by decide +kernel) (by decide +kernel) (by decide +kernel) (fun f36 ef36 hIf36 => ?_)
      refine pe_aload_n (j := 0) (by decide +kernel) rfl ?_
      refine pe_get (j := 7) (ci := 12) (n := 0) (by decide +kernel) (by decide +kernel) (md_o hc) rfl ?_
      refine pe_iconstv (n := 3) (v := 3) (by decide +kernel) (by decide +kernel) ?_
      refine pe_iconstv (n := 1) (v := 1) (by decide +kernel) (by decide +kernel) ?_
      refine mz_st148 (by decide +kernel) hc hIf36 kz_3 (by omega) (by omega) (by rw [kz_1]; simp only [MT]; omega) (fun A37 eA37 hIA37 => ?_)
      refine pe_aload_n (j := 0) (by decide +kernel) rfl ?_
      refine pe_get (j := 7) (ci := 12) (n := 0) (by decide +kernel) (by decide +kernel) (md_o hc) rfl ?_
      refine pe_iconstv (n := 4) (v := 4) (by decide +kernel) (by decide +kernel) ?_
      refine pe_aload_n (j := 0) (by decide +kernel) rfl ?_
      refine pe_get (j := 90) (ci := 12) (n := 4) (by decide +kernel) (by decide +kernel) (md_o hc) rfl ?_
      refine pe_top (v := (f 4)) (upf_fr ef36 (by decide)) ?_
      refine mz_st148 (by decide +kernel) hc hIA37 kz_4 (by omega) (by omega) (by simp only [MT]; omega) (fun A38 eA38 hIA38 => ?_)
      refine pe_vret (by decide +kernel) rfl ⟨rfl, rfl, ?_⟩
      show pmE pg X pg_tyl pg_cl (d + 3) 210 19 [.ref 147, .int x1, .int x2, pm_dead] [] (md wc f36 A38) _
      refine pe_iload_n (j := 1) (by decide +kernel) rfl ?_
      have hr_3_f := hI.1 3
      simp only [MF] at hr_3_f
      have hx39 : (f36 3).toInt = (f 3).toInt := (congrArg Int32.toInt (show f36 3 = (f 3) from upf_fr ef36 (by decide))).trans rfl
      have hx40 : (f36 5).toInt = (f 5).toInt := (congrArg Int32.toInt (show f36 5 = (f 5) from upf_fr ef36 (by decide))).trans rfl
      have hx41 : (f36 8).toInt = 1 := (congrArg Int32.toInt (show f36 8 = 1 from upf_at ef36)).trans kz_1
      exact pe_iret (by decide +kernel) rfl rfl ⟨f36, A38, x1, rfl, hIA38, (fun k n3 n4 n5 n6 n7 n8 => upf_fr ef36 n8), (fun k n148 => (upa_fr eA38 n148).trans (upa_fr eA37 n148)), (by omega), (by omega), (by omega), ⟨(by omega), trivial⟩⟩
