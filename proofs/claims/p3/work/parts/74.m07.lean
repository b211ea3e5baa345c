set_option maxRecDepth 100000 in
set_option maxHeartbeats 8000000 in
theorem MM_208 {X : pm_X} {d : Nat} {wc : pm_W} {f : Nat → Int32} {A : Nat → List Int32} {x1 x2 : Int32} (hc : wc.length = 147) (hI : MI f A) : pmE pg X pg_tyl pg_cl (d + 3) 208 0 (pm_ent (pm_max pg 208) [.ref 147, .int x1, .int x2]) [] (md wc f A) (fun q => ∃ (f' : Nat → Int32) (A' : Nat → List Int32) (r : Int32), q = (some (.int r), md wc f' A', 0, 0) ∧ MI f' A' ∧ (∀ k : Nat, k ≠ 3 → k ≠ 4 → k ≠ 5 → k ≠ 6 → k ≠ 7 → k ≠ 8 → f' k = f k) ∧ (∀ k : Nat, k ≠ 148 → A' k = A k) ∧ ((-5) * (f' 3).toInt + (f' 5).toInt + (-5000) * (f' 8).toInt + 5 * (f 3).toInt + (-1) * (f 5).toInt + 4999 * (f 8).toInt + 1) ≤ 0 ∧ ((True ∧ True))) := by
  show pmE pg X pg_tyl pg_cl (d + 3) 208 0 [.ref 147, .int x1, .int x2, pm_dead] [] (md wc f A) _
  refine pe_aload_n (j := 0) (by decide +kernel) rfl ?_
  refine pe_get (j := 112) (ci := 12) (n := 8) (by decide +kernel) (by decide +kernel) (md_o hc) rfl ?_
  have hr_8_f := hI.1 8
  simp only [MF] at hr_8_f
  refine pz_if_ne (off := 23) (t := 27) (by decide +kernel) (by decide) rfl rfl (fun h1 => ?_) (fun h1 => ?_)
  · skip
    refine pe_aload_n (j := 0) (by decide +kernel) rfl ?_
    refine pi_V (j := 116) (mj := 209) (by decide +kernel) (cll_V (args := []) (n := 0) (by decide +kernel) rfl rfl (md_o hc) (by decide +kernel) (Nat.le_of_ble_eq_true rfl) (Nat.le_of_ble_eq_true rfl)) ?_
    show pmE pg X pg_tyl pg_cl (d + 2) 209 0 [.ref 147] [] (md wc f A) _
    refine pe_aload_n (j := 0) (by decide +kernel) rfl ?_
    refine pe_get (j := 112) (ci := 12) (n := 8) (by decide +kernel) (by decide +kernel) (md_o hc) rfl ?_
    refine pz_if_eq (off := 4) (t := 8) (by decide +kernel) (by decide) rfl rfl (fun h2 => by omega) (fun h2 => ?_)
    refine pe_vret (by decide +kernel) rfl ⟨rfl, rfl, ?_⟩
    show pmE pg X pg_tyl pg_cl (d + 3) 208 31 [.ref 147, .int x1, .int x2, pm_dead] [] (md wc f A) _
    refine pe_iconstv (n := 0) (v := 0) (by decide +kernel) (by decide +kernel) ?_
    have hr_3_f := hI.1 3
    simp only [MF] at hr_3_f
    have hr_5_f := hI.1 5
    simp only [MF] at hr_5_f
    exact pe_iret (by decide +kernel) rfl rfl ⟨f, A, 0, rfl, hI, (fun k n3 n4 n5 n6 n7 n8 => rfl), (fun k n148 => rfl), (by omega), ⟨trivial, trivial⟩⟩
  · skip
    refine pe_aload_n (j := 0) (by decide +kernel) rfl ?_
    refine pe_get (j := 93) (ci := 12) (n := 5) (by decide +kernel) (by decide +kernel) (md_o hc) rfl ?_
    have hr_5_f := hI.1 5
    simp only [MF] at hr_5_f
    refine pe_iconstv (n := 3) (v := 3) (by decide +kernel) (by decide +kernel) ?_
    refine pz_icmp_ne (off := 15) (t := 27) (by decide +kernel) (by decide) rfl rfl kz_3 (fun h3 => ?_) (fun h3 => ?_)
    · skip
      refine pe_aload_n (j := 0) (by decide +kernel) rfl ?_
      refine pi_V (j := 116) (mj := 209) (by decide +kernel) (cll_V (args := []) (n := 0) (by decide +kernel) rfl rfl (md_o hc) (by decide +kernel) (Nat.le_of_ble_eq_true rfl) (Nat.le_of_ble_eq_true rfl)) ?_
      show pmE pg X pg_tyl pg_cl (d + 2) 209 0 [.ref 147] [] (md wc f A) _
      refine pe_aload_n (j := 0) (by decide +kernel) rfl ?_
      refine pe_get (j := 112) (ci := 12) (n := 8) (by decide +kernel) (by decide +kernel) (md_o hc) rfl ?_
      refine pz_if_eq (off := 4) (t := 8) (by decide +kernel) (by decide) rfl rfl (fun h4 => ?_) (fun h4 => by omega)
      refine pe_aload_n (j := 0) (by decide +kernel) rfl ?_
      refine pe_iconstv (n := 1) (v := 1) (by decide +kernel) (by decide +kernel) ?_
      refine mz_put8 (jj := 112) (by decide +kernel) (by decide +kernel) hc hI (by decide +kernel) (by decide +kernel) (by decide +kernel) (fun f5 ef5 hIf5 => ?_)
      refine pe_aload_n (j := 0) (by decide +kernel) rfl ?_
      refine pe_get (j := 7) (ci := 12) (n := 0) (by decide +kernel) (by decide +kernel) (md_o hc) rfl ?_
      refine pe_iconstv (n := 3) (v := 3) (by decide +kernel) (by decide +kernel) ?_
      refine pe_iconstv (n := 1) (v := 1) (by decide +kernel) (by decide +kernel) ?_
      refine mz_st148 (by decide +kernel) hc hIf5 kz_3 (by omega) (by omega) (by rw [kz_1]; simp only [MT]; omega) (fun A6 eA6 hIA6 => ?_)
      refine pe_aload_n (j := 0) (by decide +kernel) rfl ?_
      refine pe_get (j := 7) (ci := 12) (n := 0) (by decide +kernel) (by decide +kernel) (md_o hc) rfl ?_
      refine pe_iconstv (n := 4) (v := 4) (by decide +kernel) (by decide +kernel) ?_
      refine pe_aload_n (j := 0) (by decide +kernel) rfl ?_
      refine pe_get (j := 90) (ci := 12) (n := 4) (by decide +kernel) (by decide +kernel) (md_o hc) rfl ?_
      refine pe_top (v := (f 4)) (upf_fr ef5 (by decide)) ?_
      refine mz_st148 (by decide +kernel) hc hIA6 kz_4 (by omega) (by omega) (by simp only [MT]; omega) (fun A7 eA7 hIA7 => ?_)
      refine pe_vret (by decide +kernel) rfl ⟨rfl, rfl, ?_⟩
      show pmE pg X pg_tyl pg_cl (d + 3) 208 31 [.ref 147, .int x1, .int x2, pm_dead] [] (md wc f5 A7) _
      refine pe_iconstv (n := 0) (v := 0) (by decide +kernel) (by decide +kernel) ?_
      have hr_3_f := hI.1 3
      simp only [MF] at hr_3_f
      have hx8 : (f5 3).toInt = (f 3).toInt := (congrArg Int32.toInt (show f5 3 = (f 3) from upf_fr ef5 (by decide))).trans rfl
      have hx9 : (f5 5).toInt = (f 5).toInt := (congrArg Int32.toInt (show f5 5 = (f 5) from upf_fr ef5 (by decide))).trans rfl
      have hx10 : (f5 8).toInt = 1 := (congrArg Int32.toInt (show f5 8 = 1 from upf_at ef5)).trans kz_1
      exact pe_iret (by decide +kernel) rfl rfl ⟨f5, A7, 0, rfl, hIA7, (fun k n3 n4 n5 n6 n7 n8 => upf_fr ef5 n8), (fun k n148 => (upa_fr eA7 n148).trans (upa_fr eA6 n148)), (by omega), ⟨trivial, trivial⟩⟩
    · skip
      refine pe_aload_n (j := 0) (by decide +kernel) rfl ?_
      refine pe_get (j := 103) (ci := 12) (n := 7) (by decide +kernel) (by decide +kernel) (md_o hc) rfl ?_
      refine pe_iload_n (j := 1) (by decide +kernel) rfl ?_
      refine pe_iload_n (j := 2) (by decide +kernel) rfl ?_
      refine pi_S (j := 119) (mj := 199) (by decide +kernel) (by decide +kernel) rfl ?_
      show pmE pg X pg_tyl pg_cl (d + 2) 199 0 [.int (f 7), .int x1, .int x2] [] (md wc f A) _
      refine pe_iload_n (j := 0) (by decide +kernel) rfl ?_
      refine pe_iload_n (j := 1) (by decide +kernel) rfl ?_
      have lw12 := zi_lo (f 7)
      have uw12 := zi_hi (f 7)
      have lw13 := zi_lo x1
      have uw13 := zi_hi x1
      refine pz_icmp_lt (off := 12) (t := 14) (by decide +kernel) (by decide) rfl rfl rfl (fun h11 => ?_) (fun h11 => ?_)
      · skip
        refine pe_iconstv (n := 0) (v := 0) (by decide +kernel) (by decide +kernel) ?_
        refine pe_iret (by decide +kernel) rfl rfl ⟨rfl, rfl, ?_⟩
        show pmE pg X pg_tyl pg_cl (d + 3) 208 24 [.ref 147, .int x1, .int x2, pm_dead] [.int 0] (md wc f A) _
        refine pz_if_ne (off := 9) (t := 33) (by decide +kernel) (by decide) rfl kz_0 (fun h14 => by omega) (fun h14 => ?_)
        refine pe_aload_n (j := 0) (by decide +kernel) rfl ?_
        refine pi_V (j := 116) (mj := 209) (by decide +kernel) (cll_V (args := []) (n := 0) (by decide +kernel) rfl rfl (md_o hc) (by decide +kernel) (Nat.le_of_ble_eq_true rfl) (Nat.le_of_ble_eq_true rfl)) ?_
        show pmE pg X pg_tyl pg_cl (d + 2) 209 0 [.ref 147] [] (md wc f A) _
        refine pe_aload_n (j := 0) (by decide +kernel) rfl ?_
        refine pe_get (j := 112) (ci := 12) (n := 8) (by decide +kernel) (by decide +kernel) (md_o hc) rfl ?_
        refine pz_if_eq (off := 4) (t := 8) (by decide +kernel) (by decide) rfl rfl (fun h15 => ?_) (fun h15 => by omega)
        refine pe_aload_n (j := 0) (by decide +kernel) rfl ?_
        refine pe_iconstv (n := 1) (v := 1) (by decide +kernel) (by decide +kernel) ?_
        refine mz_put8 (jj := 112) (by decide +kernel) (by decide +kernel) hc hI (by decide +kernel) (by decide +kernel) (by decide +kernel) (fun f16 ef16 hIf16 => ?_)
        refine pe_aload_n (j := 0) (by decide +kernel) rfl ?_
        refine pe_get (j := 7) (ci := 12) (n := 0) (by decide +kernel) (by decide +kernel) (md_o hc) rfl ?_
        refine pe_iconstv (n := 3) (v := 3) (by decide +kernel) (by decide +kernel) ?_
        refine pe_iconstv (n := 1) (v := 1) (by decide +kernel) (by decide +kernel) ?_
        refine mz_st148 (by decide +kernel) hc hIf16 kz_3 (by omega) (by omega) (by rw [kz_1]; simp only [MT]; omega) (fun A17 eA17 hIA17 => ?_)
        refine pe_aload_n (j := 0) (by decide +kernel) rfl ?_
        refine pe_get (j := 7) (ci := 12) (n := 0) (by decide +kernel) (by decide +kernel) (md_o hc) rfl ?_
        refine pe_iconstv (n := 4) (v := 4) (by decide +kernel) (by decide +kernel) ?_
        refine pe_aload_n (j := 0) (by decide +kernel) rfl ?_
        refine pe_get (j := 90) (ci := 12) (n := 4) (by decide +kernel) (by decide +kernel) (md_o hc) rfl ?_
        refine pe_top (v := (f 4)) (upf_fr ef16 (by decide)) ?_
        refine mz_st148 (by decide +kernel) hc hIA17 kz_4 (by omega) (by omega) (by simp only [MT]; omega) (fun A18 eA18 hIA18 => ?_)
        refine pe_vret (by decide +kernel) rfl ⟨rfl, rfl, ?_⟩
        show pmE pg X pg_tyl pg_cl (d + 3) 208 31 [.ref 147, .int x1, .int x2, pm_dead] [] (md wc f16 A18) _
        refine pe_iconstv (n := 0) (v := 0) (by decide +kernel) (by decide +kernel) ?_
        have hr_3_f := hI.1 3
        simp only [MF] at hr_3_f
        have hx19 : (f16 3).toInt = (f 3).toInt := (congrArg Int32.toInt (show f16 3 = (f 3) from upf_fr ef16 (by decide))).trans rfl
        have hx20 : (f16 5).toInt = (f 5).toInt := (congrArg Int32.toInt (show f16 5 = (f 5) from upf_fr ef16 (by decide))).trans rfl
        have hx21 : (f16 8).toInt = 1 := (congrArg Int32.toInt (show f16 8 = 1 from upf_at ef16)).trans kz_1
        exact pe_iret (by decide +kernel) rfl rfl ⟨f16, A18, 0, rfl, hIA18, (fun k n3 n4 n5 n6 n7 n8 => upf_fr ef16 n8), (fun k n148 => (upa_fr eA18 n148).trans (upa_fr eA17 n148)), (by omega), ⟨trivial, trivial⟩⟩
      · skip
        refine pe_iload_n (j := 0) (by decide +kernel) rfl ?_
        refine pe_iload_n (j := 2) (by decide +kernel) rfl ?_
        have lw23 := zi_lo x2
        have uw23 := zi_hi x2
        refine pz_icmp_gt (off := 7) (t := 14) (by decide +kernel) (by decide) rfl rfl rfl (fun h22 => ?_) (fun h22 => ?_)
        · skip
          refine pe_iconstv (n := 0) (v := 0) (by decide +kernel) (by decide +kernel) ?_
          refine pe_iret (by decide +kernel) rfl rfl ⟨rfl, rfl, ?_⟩
          show pmE pg X pg_tyl pg_cl (d + 3) 208 24 [.ref 147, .int x1, .int x2, pm_dead] [.int 0] (md wc f A) _
          refine pz_if_ne (off := 9) (t := 33) (by decide +kernel) (by decide) rfl kz_0 (fun h24 => by omega) (fun h24 => ?_)
          refine pe_aload_n (j := 0) (by decide +kernel) rfl ?_
          refine pi_V (j := 116) (mj := 209) (by decide +kernel) (cll_V (args := []) (n := 0) (by decide +kernel) rfl rfl (md_o hc) (by decide +kernel) (Nat.le_of_ble_eq_true rfl) (Nat.le_of_ble_eq_true rfl)) ?_
          show pmE pg X pg_tyl pg_cl (d + 2) 209 0 [.ref 147] [] (md wc f A) _
          refine pe_aload_n (j := 0) (by decide +kernel) rfl ?_
          refine pe_get (j := 112) (ci := 12) (n := 8) (by decide +kernel) (by decide +kernel) (md_o hc) rfl ?_
          refine pz_if_eq (off := 4) (t := 8) (by decide +kernel) (by decide) rfl rfl (fun h25 => ?_) (fun h25 => by omega)
          refine pe_aload_n (j := 0) (by decide +kernel) rfl ?_
          refine pe_iconstv (n := 1) (v := 1) (by decide +kernel) (by decide +kernel) ?_
          refine mz_put8 (jj := 112) (by decide +kernel) (by decide +kernel) hc hI (by decide +kernel) (by decide +kernel) (by decide +kernel) (fun f26 ef26 hIf26 => ?_)
          refine pe_aload_n (j := 0) (by decide +kernel) rfl ?_
          refine pe_get (j := 7) (ci := 12) (n := 0) (by decide +kernel) (by decide +kernel) (md_o hc) rfl ?_
          refine pe_iconstv (n := 3) (v := 3) (by decide +kernel) (by decide +kernel) ?_
          refine pe_iconstv (n := 1) (v := 1) (by decide +kernel) (by decide +kernel) ?_
          refine mz_st148 (by decide +kernel) hc hIf26 kz_3 (by omega) (by omega) (by rw [kz_1]; simp only [MT]; omega) (fun A27 eA27 hIA27 => ?_)
          refine pe_aload_n (j := 0) (by decide +kernel) rfl ?_
          refine pe_get (j := 7) (ci := 12) (n := 0) (by decide +kernel) (by decide +kernel) (md_o hc) rfl ?_
          refine pe_iconstv (n := 4) (v := 4) (by decide +kernel) (by decide +kernel) ?_
          refine pe_aload_n (j := 0) (by decide +kernel) rfl ?_
          refine pe_get (j := 90) (ci := 12) (n := 4) (by decide +kernel) (by decide +kernel) (md_o hc) rfl ?_
          refine pe_top (v := (f 4)) (upf_fr ef26 (by decide)) ?_
          refine mz_st148 (by decide +kernel) hc hIA27 kz_4 (by omega) (by omega) (by simp only [MT]; omega) (fun A28 eA28 hIA28 => ?_)
          refine pe_vret (by decide +kernel) rfl ⟨rfl, rfl, ?_⟩
          show pmE pg X pg_tyl pg_cl (d + 3) 208 31 [.ref 147, .int x1, .int x2, pm_dead] [] (md wc f26 A28) _
          refine pe_iconstv (n := 0) (v := 0) (by decide +kernel) (by decide +kernel) ?_
          have hr_3_f := hI.1 3
          simp only [MF] at hr_3_f
          have hx29 : (f26 3).toInt = (f 3).toInt := (congrArg Int32.toInt (show f26 3 = (f 3) from upf_fr ef26 (by decide))).trans rfl
          have hx30 : (f26 5).toInt = (f 5).toInt := (congrArg Int32.toInt (show f26 5 = (f 5) from upf_fr ef26 (by decide))).trans rfl
          have hx31 : (f26 8).toInt = 1 := (congrArg Int32.toInt (show f26 8 = 1 from upf_at ef26)).trans kz_1
          exact pe_iret (by decide +kernel) rfl rfl ⟨f26, A28, 0, rfl, hIA28, (fun k n3 n4 n5 n6 n7 n8 => upf_fr ef26 n8), (fun k n148 => (upa_fr eA28 n148).trans (upa_fr eA27 n148)), (by omega), ⟨trivial, trivial⟩⟩
        · skip
          refine pe_iconstv (n := 1) (v := 1) (by decide +kernel) (by decide +kernel) ?_
          refine pe_goto (off := 4) (t := 15) (by decide +kernel) (by decide) rfl ?_
          refine pe_iret (by decide +kernel) rfl rfl ⟨rfl, rfl, ?_⟩
          show pmE pg X pg_tyl pg_cl (d + 3) 208 24 [.ref 147, .int x1, .int x2, pm_dead] [.int 1] (md wc f A) _
          refine pz_if_ne (off := 9) (t := 33) (by decide +kernel) (by decide) rfl kz_1 (fun h32 => ?_) (fun h32 => by omega)
          refine pe_aload_n (j := 0) (by decide +kernel) rfl ?_
          refine pe_get (j := 103) (ci := 12) (n := 7) (by decide +kernel) (by decide +kernel) (md_o hc) rfl ?_
          refine pe_istore_n (j := 3) (ls' := [.ref 147, .int x1, .int x2, .int (f 7)]) (by decide +kernel) (Nat.le_of_ble_eq_true rfl) rfl ?_
          refine pe_aload_n (j := 0) (by decide +kernel) rfl ?_
          have hr_3_f := hI.1 3
          simp only [MF] at hr_3_f
          refine pz_callV (j := 127) (mj := 201) (by decide +kernel) (cll_V (args := []) (n := 0) (by decide +kernel) rfl rfl (md_o hc) (by decide +kernel) (Nat.le_of_ble_eq_true rfl) (Nat.le_of_ble_eq_true rfl)) (MM_201 hc hI) (fun q33a q33b q33c q33d hqq33 => ?_)
          obtain ⟨f34, eq33, hIq33, hGq33, hX0q33, kq33⟩ := hqq33
          cases eq33
          refine ⟨rfl, rfl, ?_⟩
          have hr_5_f34 := hIq33.1 5
          simp only [MF] at hr_5_f34
          have hr_3_f34 := hIq33.1 3
          simp only [MF] at hr_3_f34
          show pmE pg X pg_tyl pg_cl (d + 3) 208 42 [.ref 147, .int x1, .int x2, .int (f 7)] [] (md wc f34 A) _
          refine pe_iload_n (j := 3) (by decide +kernel) rfl ?_
          have hx35 : (f34 8).toInt = (f 8).toInt := (congrArg Int32.toInt (show f34 8 = (f 8) from (hGq33 8 (by decide) (by decide) (by decide) (by decide) (by decide)))).trans rfl
          exact pe_iret (by decide +kernel) rfl rfl ⟨f34, A, (f 7), rfl, hIq33, (fun k n3 n4 n5 n6 n7 n8 => (hGq33 k n3 n4 n5 n6 n7)), (fun k n148 => rfl), (by omega), ⟨trivial, trivial⟩⟩
set_option maxRecDepth 100000 in
set_option maxHeartbeats 8000000 in
theorem MM_210 {X : pm_X} {d : Nat} {wc : pm_W} {f : Nat → Int32} {A : Nat → List Int32} {x1 x2 : Int32} (hc : wc.length = 147) (hI : MI f A) (gx1 : (0 ≤ x1.toInt ∧ x1.toInt ≤ 2)) (gx2 : (8 ≤ x2.toInt ∧ x2.toInt ≤ 100)) (hxp0 : (x1.toInt + (-1) * x2.toInt) ≤ 0) : pmE pg X pg_tyl pg_cl (d + 3) 210 0 (pm_ent (pm_max pg 210) [.ref 147, .int x1, .int x2]) [] (md wc f A) (fun q => ∃ (f' : Nat → Int32) (A' : Nat → List Int32) (r : Int32), q = (some (.int r), md wc f' A', 0, 0) ∧ MI f' A' ∧ (∀ k : Nat, k ≠ 3 → k ≠ 4 → k ≠ 5 → k ≠ 6 → k ≠ 7 → k ≠ 8 → f' k = f k) ∧ (∀ k : Nat, k ≠ 148 → A' k = A k) ∧ ((-5) * (f' 3).toInt + (f' 5).toInt + (-5000) * (f' 8).toInt + 5 * (f 3).toInt + (-1) * (f 5).toInt + 4999 * (f 8).toInt + 1) ≤ 0 ∧ ((-1) * r.toInt + x1.toInt) ≤ 0 ∧ (r.toInt + (-1) * x2.toInt) ≤ 0 ∧ (((0 ≤ r.toInt ∧ r.toInt ≤ 100) ∧ True))) := by
  show pmE pg X pg_tyl pg_cl (d + 3) 210 0 [.ref 147, .int x1, .int x2, pm_dead] [] (md wc f A) _
  refine pe_aload_n (j := 0) (by decide +kernel) rfl ?_
  refine pe_get (j := 112) (ci := 12) (n := 8) (by decide +kernel) (by decide +kernel) (md_o hc) rfl ?_
  have hr_8_f := hI.1 8
  simp only [MF] at hr_8_f
  refine pz_if_ne (off := 11) (t := 15) (by decide +kernel) (by decide) rfl rfl (fun h1 => ?_) (fun h1 => ?_)
  · skip
    refine pe_aload_n (j := 0) (by decide +kernel) rfl ?_
    refine pi_V (j := 116) (mj := 209) (by decide +kernel) (cll_V (args := []) (n := 0) (by decide +kernel) rfl rfl (md_o hc) (by decide +kernel) (Nat.le_of_ble_eq_true rfl) (Nat.le_of_ble_eq_true rfl)) ?_
    show pmE pg X pg_tyl pg_cl (d + 2) 209 0 [.ref 147] [] (md wc f A) _
    refine pe_aload_n (j := 0) (by decide +kernel) rfl ?_
    refine pe_get (j := 112) (ci := 12) (n := 8) (by decide +kernel) (by decide +kernel) (md_o hc) rfl ?_
    refine pz_if_eq (off := 4) (t := 8) (by decide +kernel) (by decide) rfl rfl (fun h2 => by omega) (fun h2 => ?_)
    refine pe_vret (by decide +kernel) rfl ⟨rfl, rfl, ?_⟩
    show pmE pg X pg_tyl pg_cl (d + 3) 210 19 [.ref 147, .int x1, .int x2, pm_dead] [] (md wc f A) _
    refine pe_iload_n (j := 1) (by decide +kernel) rfl ?_
    have hr_3_f := hI.1 3
    simp only [MF] at hr_3_f
    have hr_5_f := hI.1 5
    simp only [MF] at hr_5_f
    exact pe_iret (by decide +kernel) rfl rfl ⟨f, A, x1, rfl, hI, (fun k n3 n4 n5 n6 n7 n8 => rfl), (fun k n148 => rfl), (by omega), (by omega), (by omega), ⟨(by omega), trivial⟩⟩
  · skip
    refine pe_aload_n (j := 0) (by decide +kernel) rfl ?_
    refine pe_get (j := 93) (ci := 12) (n := 5) (by decide +kernel) (by decide +kernel) (md_o hc) rfl ?_
    have hr_5_f := hI.1 5
    simp only [MF] at hr_5_f
    refine pe_iconstv (n := 1) (v := 1) (by decide +kernel) (by decide +kernel) ?_
    refine pz_icmp_eq (off := 9) (t := 21) (by decide +kernel) (by decide) rfl rfl kz_1 (fun h3 => ?_) (fun h3 => ?_)
    · skip
      refine pe_aload_n (j := 0) (by decide +kernel) rfl ?_
      refine pe_get (j := 109) (ci := 12) (n := 6) (by decide +kernel) (by decide +kernel) (md_o hc) rfl ?_
      refine pe_istore_n (j := 3) (ls' := [.ref 147, .int x1, .int x2, .int (f 6)]) (by decide +kernel) (Nat.le_of_ble_eq_true rfl) rfl ?_
      refine pe_iload_n (j := 3) (by decide +kernel) rfl ?_
      refine pe_iload_n (j := 1) (by decide +kernel) rfl ?_
      refine pe_iload_n (j := 2) (by decide +kernel) rfl ?_
      refine pi_S (j := 119) (mj := 199) (by decide +kernel) (by decide +kernel) rfl ?_
      show pmE pg X pg_tyl pg_cl (d + 2) 199 0 [.int (f 6), .int x1, .int x2] [] (md wc f A) _
      refine pe_iload_n (j := 0) (by decide +kernel) rfl ?_
      refine pe_iload_n (j := 1) (by decide +kernel) rfl ?_
      have lw5 := zi_lo (f 6)
      have uw5 := zi_hi (f 6)
      refine pz_icmp_lt (off := 12) (t := 14) (by decide +kernel) (by decide) rfl rfl rfl (fun h4 => ?_) (fun h4 => ?_)
      · skip
        refine pe_iconstv (n := 0) (v := 0) (by decide +kernel) (by decide +kernel) ?_
        refine pe_iret (by decide +kernel) rfl rfl ⟨rfl, rfl, ?_⟩
        show pmE pg X pg_tyl pg_cl (d + 3) 210 32 [.ref 147, .int x1, .int x2, .int (f 6)] [.int 0] (md wc f A) _
        refine pz_if_ne (off := 12) (t := 44) (by decide +kernel) (by decide) rfl kz_0 (fun h6 => by omega) (fun h6 => ?_)
        refine pe_aload_n (j := 0) (by decide +kernel) rfl ?_
        refine pe_iconstv (n := 2) (v := 2) (by decide +kernel) (by decide +kernel) ?_
        refine pe_aload_n (j := 0) (by decide +kernel) rfl ?_
        refine pe_get (j := 90) (ci := 12) (n := 4) (by decide +kernel) (by decide +kernel) (md_o hc) rfl ?_
        refine pi_V (j := 123) (mj := 211) (by decide +kernel) (cll_V (args := [.int (f 4), .int 2]) (n := 2) (by decide +kernel) rfl rfl (md_o hc) (by decide +kernel) (Nat.le_of_ble_eq_true rfl) (Nat.le_of_ble_eq_true rfl)) ?_
        show pmE pg X pg_tyl pg_cl (d + 2) 211 0 [.ref 147, .int 2, .int (f 4)] [] (md wc f A) _
        refine pe_aload_n (j := 0) (by decide +kernel) rfl ?_
        refine pe_get (j := 112) (ci := 12) (n := 8) (by decide +kernel) (by decide +kernel) (md_o hc) rfl ?_
        refine pz_if_ne (off := 42) (t := 46) (by decide +kernel) (by decide) rfl rfl (fun h7 => by omega) (fun h7 => ?_)
        refine pe_aload_n (j := 0) (by decide +kernel) rfl ?_
        refine pe_get (j := 7) (ci := 12) (n := 0) (by decide +kernel) (by decide +kernel) (md_o hc) rfl ?_
        refine pe_iconstv (n := 3) (v := 3) (by decide +kernel) (by decide +kernel) ?_
        refine mz_ld148 (by decide +kernel) hc hI kz_3 (by omega) (by omega) (fun v8 ev8 pv8 => ?_)
        clear pv8
        have lw10 := zi_lo v8
        have uw10 := zi_hi v8
        refine pz_if_eq (off := 34) (t := 47) (by decide +kernel) (by decide) rfl rfl (fun h9 => ?_) (fun h9 => ?_)
        · skip
          refine pe_aload_n (j := 0) (by decide +kernel) rfl ?_
          refine pe_get (j := 7) (ci := 12) (n := 0) (by decide +kernel) (by decide +kernel) (md_o hc) rfl ?_
          refine pe_iconstv (n := 3) (v := 3) (by decide +kernel) (by decide +kernel) ?_
          refine pe_iload_n (j := 1) (by decide +kernel) rfl ?_
          refine mz_st148 (by decide +kernel) hc hI kz_3 (by omega) (by omega) (by rw [kz_2]; simp only [MT]; omega) (fun A11 eA11 hIA11 => ?_)
          refine pe_aload_n (j := 0) (by decide +kernel) rfl ?_
          refine pe_get (j := 7) (ci := 12) (n := 0) (by decide +kernel) (by decide +kernel) (md_o hc) rfl ?_
          refine pe_iconstv (n := 4) (v := 4) (by decide +kernel) (by decide +kernel) ?_
          refine pe_iload_n (j := 2) (by decide +kernel) rfl ?_
          refine mz_st148 (by decide +kernel) hc hIA11 kz_4 (by omega) (by omega) (by simp only [MT]; omega) (fun A12 eA12 hIA12 => ?_)
          refine pe_vret (by decide +kernel) rfl ⟨rfl, rfl, ?_⟩
          show pmE pg X pg_tyl pg_cl (d + 3) 210 44 [.ref 147, .int x1, .int x2, .int (f 6)] [] (md wc f A12) _
          refine pe_aload_n (j := 0) (by decide +kernel) rfl ?_
          have hr_3_f := hI.1 3
          simp only [MF] at hr_3_f
          refine pz_callV (j := 127) (mj := 201) (by decide +kernel) (cll_V (args := []) (n := 0) (by decide +kernel) rfl rfl (md_o hc) (by decide +kernel) (Nat.le_of_ble_eq_true rfl) (Nat.le_of_ble_eq_true rfl)) (MM_201 hc hIA12) (fun q13a q13b q13c q13d hqq13 => ?_)
          obtain ⟨f14, eq13, hIq13, hGq13, hX0q13, kq13⟩ := hqq13
          cases eq13
          refine ⟨rfl, rfl, ?_⟩
          have hr_5_f14 := hIq13.1 5
          simp only [MF] at hr_5_f14
          have hr_3_f14 := hIq13.1 3
          simp only [MF] at hr_3_f14
          show pmE pg X pg_tyl pg_cl (d + 3) 210 48 [.ref 147, .int x1, .int x2, .int (f 6)] [] (md wc f14 A12) _
          refine pe_iload_n (j := 3) (by decide +kernel) rfl ?_
          refine pe_iload_n (j := 1) (by decide +kernel) rfl ?_
          refine pe_iload_n (j := 2) (by decide +kernel) rfl ?_
          refine pi_S (j := 119) (mj := 199) (by decide +kernel) (by decide +kernel) rfl ?_
          show pmE pg X pg_tyl pg_cl (d + 2) 199 0 [.int (f 6), .int x1, .int x2] [] (md wc f14 A12) _
          refine pe_iload_n (j := 0) (by decide +kernel) rfl ?_
          refine pe_iload_n (j := 1) (by decide +kernel) rfl ?_
          refine pz_icmp_lt (off := 12) (t := 14) (by decide +kernel) (by decide) rfl rfl rfl (fun h15 => ?_) (fun h15 => by omega)
          refine pe_iconstv (n := 0) (v := 0) (by decide +kernel) (by decide +kernel) ?_
          refine pe_iret (by decide +kernel) rfl rfl ⟨rfl, rfl, ?_⟩
          show pmE pg X pg_tyl pg_cl (d + 3) 210 54 [.ref 147, .int x1, .int x2, .int (f 6)] [.int 0] (md wc f14 A12) _
          refine pz_if_eq (off := 7) (t := 61) (by decide +kernel) (by decide) rfl kz_0 (fun h16 => ?_) (fun h16 => by omega)
          refine pe_iload_n (j := 1) (by decide +kernel) rfl ?_
          have hx17 : (f14 8).toInt = (f 8).toInt := (congrArg Int32.toInt (show f14 8 = (f 8) from (hGq13 8 (by decide) (by decide) (by decide) (by decide) (by decide)))).trans rfl
          exact pe_iret (by decide +kernel) rfl rfl ⟨f14, A12, x1, rfl, hIq13, (fun k n3 n4 n5 n6 n7 n8 => (hGq13 k n3 n4 n5 n6 n7)), (fun k n148 => (upa_fr eA12 n148).trans (upa_fr eA11 n148)), (by omega), (by omega), (by omega), ⟨(by omega), trivial⟩⟩
        · skip
          refine pe_aload_n (j := 0) (by decide +kernel) rfl ?_
          refine pe_get (j := 7) (ci := 12) (n := 0) (by decide +kernel) (by decide +kernel) (md_o hc) rfl ?_
          refine pe_iconstv (n := 4) (v := 4) (by decide +kernel) (by decide +kernel) ?_
          refine mz_ld148 (by decide +kernel) hc hI kz_4 (by omega) (by omega) (fun v18 ev18 pv18 => ?_)
          clear pv18
          refine pe_iload_n (j := 2) (by decide +kernel) rfl ?_
          have lw20 := zi_lo v18
          have uw20 := zi_hi v18
          have lw21 := zi_lo (f 4)
          have uw21 := zi_hi (f 4)
          refine pz_icmp_lt (off := 23) (t := 46) (by decide +kernel) (by decide) rfl rfl rfl (fun h19 => ?_) (fun h19 => ?_)
          · skip
            refine pe_vret (by decide +kernel) rfl ⟨rfl, rfl, ?_⟩
            show pmE pg X pg_tyl pg_cl (d + 3) 210 44 [.ref 147, .int x1, .int x2, .int (f 6)] [] (md wc f A) _
            refine pe_aload_n (j := 0) (by decide +kernel) rfl ?_
            have hr_3_f := hI.1 3
            simp only [MF] at hr_3_f
            refine pz_callV (j := 127) (mj := 201) (by decide +kernel) (cll_V (args := []) (n := 0) (by decide +kernel) rfl rfl (md_o hc) (by decide +kernel) (Nat.le_of_ble_eq_true rfl) (Nat.le_of_ble_eq_true rfl)) (MM_201 hc hI) (fun q22a q22b q22c q22d hqq22 => ?_)
            obtain ⟨f23, eq22, hIq22, hGq22, hX0q22, kq22⟩ := hqq22
            cases eq22
            refine ⟨rfl, rfl, ?_⟩
            have hr_5_f23 := hIq22.1 5
            simp only [MF] at hr_5_f23
            have hr_3_f23 := hIq22.1 3
            simp only [MF] at hr_3_f23
            show pmE pg X pg_tyl pg_cl (d + 3) 210 48 [.ref 147, .int x1, .int x2, .int (f 6)] [] (md wc f23 A) _
            refine pe_iload_n (j := 3) (by decide +kernel) rfl ?_
            refine pe_iload_n (j := 1) (by decide +kernel) rfl ?_
            refine pe_iload_n (j := 2) (by decide +kernel) rfl ?_
            refine pi_S (j := 119) (mj := 199) (by decide +kernel) (by decide +kernel) rfl ?_
            show pmE pg X pg_tyl pg_cl (d + 2) 199 0 [.int (f 6), .int x1, .int x2] [] (md wc f23 A) _
            refine pe_iload_n (j := 0) (by decide +kernel) rfl ?_
            refine pe_iload_n (j := 1) (by decide +kernel) rfl ?_
            refine pz_icmp_lt (off := 12) (t := 14) (by decide +kernel) (by decide) rfl rfl rfl (fun h24 => ?_) (fun h24 => by omega)
            refine pe_iconstv (n := 0) (v := 0) (by decide +kernel) (by decide +kernel) ?_
            refine pe_iret (by decide +kernel) rfl rfl ⟨rfl, rfl, ?_⟩
            show pmE pg X pg_tyl pg_cl (d + 3) 210 54 [.ref 147, .int x1, .int x2, .int (f 6)] [.int 0] (md wc f23 A) _
            refine pz_if_eq (off := 7) (t := 61) (by decide +kernel) (by decide) rfl kz_0 (fun h25 => ?_) (fun h25 => by omega)
            refine pe_iload_n (j := 1) (by decide +kernel) rfl ?_
            have hx26 : (f23 8).toInt = (f 8).toInt := (congrArg Int32.toInt (show f23 8 = (f 8) from (hGq22 8 (by decide) (by decide) (by decide) (by decide) (by decide)))).trans rfl
            exact pe_iret (by decide +kernel) rfl rfl ⟨f23, A, x1, rfl, hIq22, (fun k n3 n4 n5 n6 n7 n8 => (hGq22 k n3 n4 n5 n6 n7)), (fun k n148 => rfl), (by omega), (by omega), (by omega), ⟨(by omega), trivial⟩⟩
          · skip
            refine pe_aload_n (j := 0) (by decide +kernel) rfl ?_
            refine pe_get (j := 7) (ci := 12) (n := 0) (by decide +kernel) (by decide +kernel) (md_o hc) rfl ?_
            refine pe_iconstv (n := 4) (v := 4) (by decide +kernel) (by decide +kernel) ?_
            refine mz_ld148 (by decide +kernel) hc hI kz_4 (by omega) (by omega) (fun v27 ev27 pv27 => ?_)
            rw [ev27.trans ev18.symm]
            clear pv27 ev27 v27
            refine pe_iload_n (j := 2) (by decide +kernel) rfl ?_
            refine pz_icmp_ne (off := 14) (t := 47) (by decide +kernel) (by decide) rfl rfl rfl (fun h28 => ?_) (fun h28 => ?_)
            · skip
              refine pe_aload_n (j := 0) (by decide +kernel) rfl ?_
              refine pe_get (j := 7) (ci := 12) (n := 0) (by decide +kernel) (by decide +kernel) (md_o hc) rfl ?_
              refine pe_iconstv (n := 3) (v := 3) (by decide +kernel) (by decide +kernel) ?_
              refine pe_iload_n (j := 1) (by decide +kernel) rfl ?_
              refine mz_st148 (by decide +kernel) hc hI kz_3 (by omega) (by omega) (by rw [kz_2]; simp only [MT]; omega) (fun A29 eA29 hIA29 => ?_)
              refine pe_aload_n (j := 0) (by decide +kernel) rfl ?_
              refine pe_get (j := 7) (ci := 12) (n := 0) (by decide +kernel) (by decide +kernel) (md_o hc) rfl ?_
              refine pe_iconstv (n := 4) (v := 4) (by decide +kernel) (by decide +kernel) ?_
              refine pe_iload_n (j := 2) (by decide +kernel) rfl ?_
              refine mz_st148 (by decide +kernel) hc hIA29 kz_4 (by omega) (by omega) (by simp only [MT]; omega) (fun A30 eA30 hIA30 => ?_)
              refine pe_vret (by decide +kernel) rfl ⟨rfl, rfl, ?_⟩
              show pmE pg X pg_tyl pg_cl (d + 3) 210 44 [.ref 147, .int x1, .int x2, .int (f 6)] [] (md wc f A30) _
              refine pe_aload_n (j := 0) (by decide +kernel) rfl ?_
              have hr_3_f := hI.1 3
              simp only [MF] at hr_3_f
              refine pz_callV (j := 127) (mj := 201) (by decide +kernel) (cll_V (args := []) (n := 0) (by decide +kernel) rfl rfl (md_o hc) (by decide +kernel) (Nat.le_of_ble_eq_true rfl) (Nat.le_of_ble_eq_true rfl)) (MM_201 hc hIA30) (fun q31a q31b q31c q31d hqq31 => ?_)
              obtain ⟨f32, eq31, hIq31, hGq31, hX0q31, kq31⟩ := hqq31
              cases eq31
              refine ⟨rfl, rfl, ?_⟩
              have hr_5_f32 := hIq31.1 5
              simp only [MF] at hr_5_f32
              have hr_3_f32 := hIq31.1 3
              simp only [MF] at hr_3_f32
              show pmE pg X pg_tyl pg_cl (d + 3) 210 48 [.ref 147, .int x1, .int x2, .int (f 6)] [] (md wc f32 A30) _
              refine pe_iload_n (j := 3) (by decide +kernel) rfl ?_
              refine pe_iload_n (j := 1) (by decide +kernel) rfl ?_
              refine pe_iload_n (j := 2) (by decide +kernel) rfl ?_
              refine pi_S (j := 119) (mj := 199) (by decide +kernel) (by decide +kernel) rfl ?_
              show pmE pg X pg_tyl pg_cl (d + 2) 199 0 [.int (f 6), .int x1, .int x2] [] (md wc f32 A30) _
              refine pe_iload_n (j := 0) (by decide +kernel) rfl ?_
              refine pe_iload_n (j := 1) (by decide +kernel) rfl ?_
              refine pz_icmp_lt (off := 12) (t := 14) (by decide +kernel) (by decide) rfl rfl rfl (fun h33 => ?_) (fun h33 => by omega)
              refine pe_iconstv (n := 0) (v := 0) (by decide +kernel) (by decide +kernel) ?_
              refine pe_iret (by decide +kernel) rfl rfl ⟨rfl, rfl, ?_⟩
              show pmE pg X pg_tyl pg_cl (d + 3) 210 54 [.ref 147, .int x1, .int x2, .int (f 6)] [.int 0] (md wc f32 A30) _
              refine pz_if_eq (off := 7) (t := 61) (by decide +kernel) (by decide) rfl kz_0 (fun h34 => ?_) (fun h34 => by omega)
              refine pe_iload_n (j := 1) (by decide +kernel) rfl ?_
              have hx35 : (f32 8).toInt = (f 8).toInt := (congrArg Int32.toInt (show f32 8 = (f 8) from (hGq31 8 (by decide) (by decide) (by decide) (by decide) (by decide)))).trans rfl
              exact pe_iret (by decide +kernel) rfl rfl ⟨f32, A30, x1, rfl, hIq31, (fun k n3 n4 n5 n6 n7 n8 => (hGq31 k n3 n4 n5 n6 n7)), (fun k n148 => (upa_fr eA30 n148).trans (upa_fr eA29 n148)), (by omega), (by omega), (by omega), ⟨(by omega), trivial⟩⟩
            · skip
              refine pe_aload_n (j := 0) (by decide +kernel) rfl ?_
              refine pe_get (j := 7) (ci := 12) (n := 0) (by decide +kernel) (by decide +kernel) (md_o hc) rfl ?_
              refine pe_iconstv (n := 3) (v := 3) (by decide +kernel) (by decide +kernel) ?_
              refine mz_ld148 (by decide +kernel) hc hI kz_3 (by omega) (by omega) (fun v36 ev36 pv36 => ?_)
              rw [ev36.trans ev8.symm]
              clear pv36 ev36 v36
              refine pe_iload_n (j := 1) (by decide +kernel) rfl ?_
              refine pz_icmp_gt (off := 4) (t := 47) (by decide +kernel) (by decide) rfl rfl kz_2 (fun h37 => ?_) (fun h37 => ?_)
              · skip
                refine pe_aload_n (j := 0) (by decide +kernel) rfl ?_
                refine pe_get (j := 7) (ci := 12) (n := 0) (by decide +kernel) (by decide +kernel) (md_o hc) rfl ?_
                refine pe_iconstv (n := 3) (v := 3) (by decide +kernel) (by decide +kernel) ?_
                refine pe_iload_n (j := 1) (by decide +kernel) rfl ?_
                refine mz_st148 (by decide +kernel) hc hI kz_3 (by omega) (by omega) (by rw [kz_2]; simp only [MT]; omega) (fun A38 eA38 hIA38 => ?_)
                refine pe_aload_n (j := 0) (by decide +kernel) rfl ?_
                refine pe_get (j := 7) (ci := 12) (n := 0) (by decide +kernel) (by decide +kernel) (md_o hc) rfl ?_
                refine pe_iconstv (n := 4) (v := 4) (by decide +kernel) (by decide +kernel) ?_
                refine pe_iload_n (j := 2) (by decide +kernel) rfl ?_
                refine mz_st148 (by decide +kernel) hc hIA38 kz_4 (by omega) (by omega) (by simp only [MT]; omega) (fun A39 eA39 hIA39 => ?_)
                refine pe_vret (by decide +kernel) rfl ⟨rfl, rfl, ?_⟩
                show pmE pg X pg_tyl pg_cl (d + 3) 210 44 [.ref 147, .int x1, .int x2, .int (f 6)] [] (md wc f A39) _
                refine pe_aload_n (j := 0) (by decide +kernel) rfl ?_
                have hr_3_f := hI.1 3
                simp only [MF] at hr_3_f
                refine pz_callV (j := 127) (mj := 201) (by decide +kernel) (cll_V (args := []) (n := 0) (by decide +kernel) rfl rfl (md_o hc) (by decide +kernel) (Nat.le_of_ble_eq_true rfl) (Nat.le_of_ble_eq_true rfl)) (MM_201 hc hIA39) (fun q40a q40b q40c q40d hqq40 => ?_)
                obtain ⟨f41, eq40, hIq40, hGq40, hX0q40, kq40⟩ := hqq40
                cases eq40
                refine ⟨rfl, rfl, ?_⟩
                have hr_5_f41 := hIq40.1 5
                simp only [MF] at hr_5_f41
                have hr_3_f41 := hIq40.1 3
                simp only [MF] at hr_3_f41
                show pmE pg X pg_tyl pg_cl (d + 3) 210 48 [.ref 147, .int x1, .int x2, .int (f 6)] [] (md wc f41 A39) _
                refine pe_iload_n (j := 3) (by decide +kernel) rfl ?_
                refine pe_iload_n (j := 1) (by decide +kernel) rfl ?_
                refine pe_iload_n (j := 2) (by decide +kernel) rfl ?_
                refine pi_S (j := 119) (mj := 199) (by decide +kernel) (by decide +kernel) rfl ?_
                show pmE pg X pg_tyl pg_cl (d + 2) 199 0 [.int (f 6), .int x1, .int x2] [] (md wc f41 A39) _
                refine pe_iload_n (j := 0) (by decide +kernel) rfl ?_
                refine pe_iload_n (j := 1) (by decide +kernel) rfl ?_
                refine pz_icmp_lt (off := 12) (t := 14) (by decide +kernel) (by decide) rfl rfl rfl (fun h42 => ?_) (fun h42 => by omega)
                refine pe_iconstv (n := 0) (v := 0) (by decide +kernel) (by decide +kernel) ?_
                refine pe_iret (by decide +kernel) rfl rfl ⟨rfl, rfl, ?_⟩
                show pmE pg X pg_tyl pg_cl (d + 3) 210 54 [.ref 147, .int x1, .int x2, .int (f 6)] [.int 0] (md wc f41 A39) _
                refine pz_if_eq (off := 7) (t := 61) (by decide +kernel) (by decide) rfl kz_0 (fun h43 => ?_) (fun h43 => by omega)
                refine pe_iload_n (j := 1) (by decide +kernel) rfl ?_
                have hx44 : (f41 8).toInt = (f 8).toInt := (congrArg Int32.toInt (show f41 8 = (f 8) from (hGq40 8 (by decide) (by decide) (by decide) (by decide) (by decide)))).trans rfl
                exact pe_iret (by decide +kernel) rfl rfl ⟨f41, A39, x1, rfl, hIq40, (fun k n3 n4 n5 n6 n7 n8 => (hGq40 k n3 n4 n5 n6 n7)), (fun k n148 => (upa_fr eA39 n148).trans (upa_fr eA38 n148)), (by omega), (by omega), (by omega), ⟨(by omega), trivial⟩⟩
              · skip
                refine pe_vret (by decide +kernel) rfl ⟨rfl, rfl, ?_⟩
                show pmE pg X pg_tyl pg_cl (d + 3) 210 44 [.ref 147, .int x1, .int x2, .int (f 6)] [] (md wc f A) _
                refine pe_aload_n (j := 0) (by decide +kernel) rfl ?_
                have hr_3_f := hI.1 3
                simp only [MF] at hr_3_f
                refine pz_callV (j := 127) (mj := 201) (by decide +kernel) (cll_V (args := []) (n := 0) (by decide +kernel) rfl rfl (md_o hc) (by decide +kernel) (Nat.le_of_ble_eq_true rfl) (Nat.le_of_ble_eq_true rfl)) (MM_201 hc hI) (fun q45a q45b q45c q45d hqq45 => ?_)
                obtain ⟨f46, eq45, hIq45, hGq45, hX0q45, kq45⟩ := hqq45
                cases eq45
                refine ⟨rfl, rfl, ?_⟩
                have hr_5_f46 := hIq45.1 5
                simp only [MF] at hr_5_f46
                have hr_3_f46 := hIq45.1 3
                simp only [MF] at hr_3_f46
                show pmE pg X pg_tyl pg_cl (d + 3) 210 48 [.ref 147, .int x1, .int x2, .int (f 6)] [] (md wc f46 A) _
                refine pe_iload_n (j := 3) (by decide +kernel) rfl ?_
                refine pe_iload_n (j := 1) (by decide +kernel) rfl ?_
                refine pe_iload_n (j := 2) (by decide +kernel) rfl ?_
                refine pi_S (j := 119) (mj := 199) (by decide +kernel) (by decide +kernel) rfl ?_
                show pmE pg X pg_tyl pg_cl (d + 2) 199 0 [.int (f 6), .int x1, .int x2] [] (md wc f46 A) _
                refine pe_iload_n (j := 0) (by decide +kernel) rfl ?_
                refine pe_iload_n (j := 1) (by decide +kernel) rfl ?_
                refine pz_icmp_lt (off := 12) (t := 14) (by decide +kernel) (by decide) rfl rfl rfl (fun h47 => ?_) (fun h47 => by omega)
                refine pe_iconstv (n := 0) (v := 0) (by decide +kernel) (by decide +kernel) ?_
                refine pe_iret (by decide +kernel) rfl rfl ⟨rfl, rfl, ?_⟩
                show pmE pg X pg_tyl pg_cl (d + 3) 210 54 [.ref 147, .int x1, .int x2, .int (f 6)] [.int 0] (md wc f46 A) _
                refine pz_if_eq (off := 7) (t := 61) (by decide +kernel) (by decide) rfl kz_0 (fun h48 => ?_) (fun h48 => by omega)
                refine pe_iload_n (j := 1) (by decide +kernel) rfl ?_
                have hx49 : (f46 8).toInt = (f 8).toInt := (congrArg Int32.toInt (show f46 8 = (f 8) from (hGq45 8 (by decide) (by decide) (by decide) (by decide) (by decide)))).trans rfl
                exact pe_iret (by decide +kernel) rfl rfl ⟨f46, A, x1, rfl, hIq45, (fun k n3 n4 n5 n6 n7 n8 => (hGq45 k n3 n4 n5 n6 n7)), (fun k n148 => rfl), (by omega), (by omega), (by omega), ⟨(by omega), trivial⟩⟩
      · skip
        refine pe_iload_n (j := 0) (by decide +kernel) rfl ?_
        refine pe_iload_n (j := 2) (by decide +kernel) rfl ?_
        refine pz_icmp_gt (off := 7) (t := 14) (by decide +kernel) (by decide) rfl rfl rfl (fun h50 => ?_) (fun h50 => ?_)
        · skip
          refine pe_iconstv (n := 0) (v := 0) (by decide +kernel) (by decide +kernel) ?_
          refine pe_iret (by decide +kernel) rfl rfl ⟨rfl, rfl, ?_⟩
          show pmE pg X pg_tyl pg_cl (d + 3) 210 32 [.ref 147, .int x1, .int x2, .int (f 6)] [.int 0] (md wc f A) _
          refine pz_if_ne (off := 12) (t := 44) (by decide +kernel) (by decide) rfl kz_0 (fun h51 => by omega) (fun h51 => ?_)
          refine pe_aload_n (j := 0) (by decide +kernel) rfl ?_
          refine pe_iconstv (n := 2) (v := 2) (by decide +kernel) (by decide +kernel) ?_
          refine pe_aload_n (j := 0) (by decide +kernel) rfl ?_
          refine pe_get (j := 90) (ci := 12) (n := 4) (by decide +kernel) (by decide +kernel) (md_o hc) rfl ?_
          refine pi_V (j := 123) (mj := 211) (by decide +kernel) (cll_V (args := [.int (f 4), .int 2]) (n := 2) (by decide +kernel) rfl rfl (md_o hc) (by decide +kernel) (Nat.le_of_ble_eq_true rfl) (Nat.le_of_ble_eq_true rfl)) ?_
          show pmE pg X pg_tyl pg_cl (d + 2) 211 0 [.ref 147, .int 2, .int (f 4)] [] (md wc f A) _
          refine pe_aload_n (j := 0) (by decide +kernel) rfl ?_
          refine pe_get (j := 112) (ci := 12) (n := 8) (by decide +kernel) (by decide +kernel) (md_o hc) rfl ?_
          refine pz_if_ne (off := 42) (t := 46) (by decide +kernel) (by decide) rfl rfl (fun h52 => by omega) (fun h52 => ?_)
          refine pe_aload_n (j := 0) (by decide +kernel) rfl ?_
          refine pe_get (j := 7) (ci := 12) (n := 0) (by decide +kernel) (by decide +kernel) (md_o hc) rfl ?_
          refine pe_iconstv (n := 3) (v := 3) (by decide +kernel) (by decide +kernel) ?_
          refine mz_ld148 (by decide +kernel) hc hI kz_3 (by omega) (by omega) (fun v53 ev53 pv53 => ?_)
          clear pv53
          have lw55 := zi_lo v53
          have uw55 := zi_hi v53
          refine pz_if_eq (off := 34) (t := 47) (by decide +kernel) (by decide) rfl rfl (fun h54 => ?_) (fun h54 => ?_)
          · skip
            refine pe_aload_n (j := 0) (by decide +kernel) rfl ?_
            refine pe_get (j := 7) (ci := 12) (n := 0) (by decide +kernel) (by decide +kernel) (md_o hc) rfl ?_
            refine pe_iconstv (n := 3) (v := 3) (by decide +kernel) (by decide +kernel) ?_
            refine pe_iload_n (j := 1) (by decide +kernel) rfl ?_
            refine mz_st148 (by decide +kernel) hc hI kz_3 (by omega) (by omega) (by rw [kz_2]; simp only [MT]; omega) (fun A56 eA56 hIA56 => ?_)
            refine pe_aload_n (j := 0) (by decide +kernel) rfl ?_
            refine pe_get (j := 7) (ci := 12) (n := 0) (by decide +kernel) (by decide +kernel) (md_o hc) rfl ?_
            refine pe_iconstv (n := 4) (v := 4) (by decide +kernel) (by decide +kernel) ?_
            refine pe_iload_n (j := 2) (by decide +kernel) rfl ?_
            refine mz_st148 (by decide +kernel) hc hIA56 kz_4 (by omega) (by omega) (by simp only [MT]; omega) (fun A57 eA57 hIA57 => ?_)
            refine pe_vret (by decide +kernel) rfl ⟨rfl, rfl, ?_⟩
            show pmE pg X pg_tyl pg_cl (d + 3) 210 44 [.ref 147, .int x1, .int x2, .int (f 6)] [] (md wc f A57) _
            refine pe_aload_n (j := 0) (by decide +kernel) rfl ?_
            have hr_3_f := hI.1 3
            simp only [MF] at hr_3_f
            refine pz_callV (j := 127) (mj := 201) (by decide +kernel) (cll_V (args := []) (n := 0) (by decide +kernel) rfl rfl (md_o hc) (by decide +kernel) (Nat.le_of_ble_eq_true rfl) (Nat.le_of_ble_eq_true rfl)) (MM_201 hc hIA57) (fun q58a q58b q58c q58d hqq58 => ?_)
            obtain ⟨f59, eq58, hIq58, hGq58, hX0q58, kq58⟩ := hqq58
            cases eq58
            refine ⟨rfl, rfl, ?_⟩
            have hr_5_f59 := hIq58.1 5
            simp only [MF] at hr_5_f59
            have hr_3_f59 := hIq58.1 3
            simp only [MF] at hr_3_f59
            show pmE pg X pg_tyl pg_cl (d + 3) 210 48 [.ref 147, .int x1, .int x2, .int (f 6)] [] (md wc f59 A57) _
            refine pe_iload_n (j := 3) (by decide +kernel) rfl ?_
            refine pe_iload_n (j := 1) (by decide +kernel) rfl ?_
            refine pe_iload_n (j := 2) (by decide +kernel) rfl ?_
            refine pi_S (j := 119) (mj := 199) (by decide +kernel) (by decide +kernel) rfl ?_
            show pmE pg X pg_tyl pg_cl (d + 2) 199 0 [.int (f 6), .int x1, .int x2] [] (md wc f59 A57) _
            refine pe_iload_n (j := 0) (by decide +kernel) rfl ?_
            refine pe_iload_n (j := 1) (by decide +kernel) rfl ?_
            refine pz_icmp_lt (off := 12) (t := 14) (by decide +kernel) (by decide) rfl rfl rfl (fun h60 => by omega) (fun h60 => ?_)
            refine pe_iload_n (j := 0) (by decide +kernel) rfl ?_
            refine pe_iload_n (j := 2) (by decide +kernel) rfl ?_
            refine pz_icmp_gt (off := 7) (t := 14) (by decide +kernel) (by decide) rfl rfl rfl (fun h61 => ?_) (fun h61 => ?_)
            · skip
              refine pe_iconstv (n := 0) (v := 0) (by decide +kernel) (by decide +kernel) ?_
              refine pe_iret (by decide +kernel) rfl rfl ⟨rfl, rfl, ?_⟩
              show pmE pg X pg_tyl pg_cl (d + 3) 210 54 [.ref 147, .int x1, .int x2, .int (f 6)] [.int 0] (md wc f59 A57) _
              refine pz_if_eq (off := 7) (t := 61) (by decide +kernel) (by decide) rfl kz_0 (fun h62 => ?_) (fun h62 => by omega)
              refine pe_iload_n (j := 1) (by decide +kernel) rfl ?_
              have hx63 : (f59 8).toInt = (f 8).toInt := (congrArg Int32.toInt (show f59 8 = (f 8) from (hGq58 8 (by decide) (by decide) (by decide) (by decide) (by decide)))).trans rfl
              exact pe_iret (by decide +kernel) rfl rfl ⟨f59, A57, x1, rfl, hIq58, (fun k n3 n4 n5 n6 n7 n8 => (hGq58 k n3 n4 n5 n6 n7)), (fun k n148 => (upa_fr eA57 n148).trans (upa_fr eA56 n148)), (by omega), (by omega), (by omega), ⟨(by omega), trivial⟩⟩
            · skip
              refine pe_iconstv (n := 1) (v := 1) (by decide +kernel) (by decide +kernel) ?_
              refine pe_goto (off := 4) (t := 15) (by decide +kernel) (by decide) rfl ?_
              refine pe_iret (by decide +kernel) rfl rfl ⟨rfl, rfl, ?_⟩
              show pmE pg X pg_tyl pg_cl (d + 3) 210 54 [.ref 147, .int x1, .int x2, .int (f 6)] [.int 1] (md wc f59 A57) _
              refine pz_if_eq (off := 7) (t := 61) (by decide +kernel) (by decide) rfl kz_1 (fun h64 => by omega) (fun h64 => ?_)
              refine pe_iload_n (j := 3) (by decide +kernel) rfl ?_
              refine pe_goto (off := 4) (t := 62) (by decide +kernel) (by decide) rfl ?_
              have hx65 : (f59 8).toInt = (f 8).toInt := (congrArg Int32.toInt (show f59 8 = (f 8) from (hGq58 8 (by decide) (by decide) (by decide) (by decide) (by decide)))).trans rfl
              exact pe_iret (by decide +kernel) rfl rfl ⟨f59, A57, (f 6), rfl, hIq58, (fun k n3 n4 n5 n6 n7 n8 => (hGq58 k n3 n4 n5 n6 n7)), (fun k n148 => (upa_fr eA57 n148).trans (upa_fr eA56 n148)), (by omega), (by omega), (by omega), ⟨(by omega), trivial⟩⟩
          · skip
            refine pe_aload_n (j := 0) (by decide +kernel) rfl ?_
            refine pe_get (j := 7) (ci := 12) (n := 0) (by decide +kernel) (by decide +kernel) (md_o hc) rfl ?_
            refine pe_iconstv (n := 4) (v := 4) (by decide +kernel) (by decide +kernel) ?_
            refine mz_ld148 (by decide +kernel) hc hI kz_4 (by omega) (by omega) (fun v66 ev66 pv66 => ?_)
            clear pv66
            refine pe_iload_n (j := 2) (by decide +kernel) rfl ?_
            have lw68 := zi_lo v66
            have uw68 := zi_hi v66
            have lw69 := zi_lo (f 4)
            have uw69 := zi_hi (f 4)
            refine pz_icmp_lt (off := 23) (t := 46) (by decide +kernel) (by decide) rfl rfl rfl (fun h67 => ?_) (fun h67 => ?_)
            · skip
              refine pe_vret (by decide +kernel) rfl ⟨rfl, rfl, ?_⟩
              show pmE pg X pg_tyl pg_cl (d + 3) 210 44 [.ref 147, .int x1, .int x2, .int (f 6)] [] (md wc f A) _
              refine pe_aload_n (j := 0) (by decide +kernel) rfl ?_
              have hr_3_f := hI.1 3
              simp only [MF] at hr_3_f
              refine pz_callV (j := 127) (mj := 201) (by decide +kernel) (cll_V (args := []) (n := 0) (by decide +kernel) rfl rfl (md_o hc) (by decide +kernel) (Nat.le_of_ble_eq_true rfl) (Nat.le_of_ble_eq_true rfl)) (MM_201 hc hI) (fun q70a q70b q70c q70d hqq70 => ?_)
              obtain ⟨f71, eq70, hIq70, hGq70, hX0q70, kq70⟩ := hqq70
              cases eq70
              refine ⟨rfl, rfl, ?_⟩
              have hr_5_f71 := hIq70.1 5
              simp only [MF] at hr_5_f71
              have hr_3_f71 := hIq70.1 3
              simp only [MF] at hr_3_f71
              show pmE pg X pg_tyl pg_cl (d + 3) 210 48 [.ref 147, .int x1, .int x2, .int (f 6)] [] (md wc f71 A) _
              refine pe_iload_n (j := 3) (by decide +kernel) rfl ?_
              refine pe_iload_n (j := 1) (by decide +kernel) rfl ?_
              refine pe_iload_n (j := 2) (by decide +kernel) rfl ?_
              refine pi_S (j := 119) (mj := 199) (by decide +kernel) (by decide +kernel) rfl ?_
              show pmE pg X pg_tyl pg_cl (d + 2) 199 0 [.int (f 6), .int x1, .int x2] [] (md wc f71 A) _
              refine pe_iload_n (j := 0) (by decide +kernel) rfl ?_
              refine pe_iload_n (j := 1) (by decide +kernel) rfl ?_
              refine pz_icmp_lt (off := 12) (t := 14) (by decide +kernel) (by decide) rfl rfl rfl (fun h72 => by omega) (fun h72 => ?_)
              refine pe_iload_n (j := 0) (by decide +kernel) rfl ?_
              refine pe_iload_n (j := 2) (by decide +kernel) rfl ?_
              refine pz_icmp_gt (off := 7) (t := 14) (by decide +kernel) (by decide) rfl rfl rfl (fun h73 => ?_) (fun h73 => ?_)
              · skip
                refine pe_iconstv (n := 0) (v := 0) (by decide +kernel) (by decide +kernel) ?_
                refine pe_iret (by decide +kernel) rfl rfl ⟨rfl, rfl, ?_⟩
                show pmE pg X pg_tyl pg_cl (d + 3) 210 54 [.ref 147, .int x1, .int x2, .int (f 6)] [.int 0] (md wc f71 A) _
                refine pz_if_eq (off := 7) (t := 61) (by decide +kernel) (by decide) rfl kz_0 (fun h74 => ?_) (fun h74 => by omega)
                refine pe_iload_n (j := 1) (by decide +kernel) rfl ?_
                have hx75 : (f71 8).toInt = (f 8).toInt := (congrArg Int32.toInt (show f71 8 = (f 8) from (hGq70 8 (by decide) (by decide) (by decide) (by decide) (by decide)))).trans rfl
                exact pe_iret (by decide +kernel) rfl rfl ⟨f71, A, x1, rfl, hIq70, (fun k n3 n4 n5 n6 n7 n8 => (hGq70 k n3 n4 n5 n6 n7)), (fun k n148 => rfl), (by omega), (by omega), (by omega), ⟨(by omega), trivial⟩⟩
              · skip
                refine pe_iconstv (n := 1) (v := 1) (by decide +kernel) (by decide +kernel) ?_
                refine pe_goto (off := 4) (t := 15) (by decide +kernel) (by decide) rfl ?_
                refine pe_iret (by decide +kernel) rfl rfl ⟨rfl, rfl, ?_⟩
                show pmE pg X pg_tyl pg_cl (d + 3) 210 54 [.ref 147, .int x1, .int x2, .int (f 6)] [.int 1] (md wc f71 A) _
                refine pz_if_eq (off := 7) (t := 61) (by decide +kernel) (by decide) rfl kz_1 (fun h76 => by omega) (fun h76 => ?_)
                refine pe_iload_n (j := 3) (by decide +kernel) rfl ?_
                refine pe_goto (off := 4) (t := 62) (by decide +kernel) (by decide) rfl ?_
                have hx77 : (f71 8).toInt = (f 8).toInt := (congrArg Int32.toInt (show f71 8 = (f 8) from (hGq70 8 (by decide) (by decide) (by decide) (by decide) (by decide)))).trans rfl
                exact pe_iret (by decide +kernel) rfl rfl ⟨f71, A, (f 6), rfl, hIq70, (fun k n3 n4 n5 n6 n7 n8 => (hGq70 k n3 n4 n5 n6 n7)), (fun k n148 => rfl), (by omega), (by omega), (by omega), ⟨(by omega), trivial⟩⟩
            · skip
              refine pe_aload_n (j := 0) (by decide +kernel) rfl ?_
              refine pe_get (j := 7) (ci := 12) (n := 0) (by decide +kernel) (by decide +kernel) (md_o hc) rfl ?_
              refine pe_iconstv (n := 4) (v := 4) (by decide +kernel) (by decide +kernel) ?_
              refine mz_ld148 (by decide +kernel) hc hI kz_4 (by omega) (by omega) (fun v78 ev78 pv78 => ?_)
              rw [ev78.trans ev66.symm]
              clear pv78 ev78 v78
              refine pe_iload_n (j := 2) (by decide +kernel) rfl ?_
              refine pz_icmp_ne (off := 14) (t := 47) (by decide +kernel) (by decide) rfl rfl rfl (fun h79 => ?_) (fun h79 => ?_)
              · skip
                refine pe_aload_n (j := 0) (by decide +kernel) rfl ?_
                refine pe_get (j := 7) (ci := 12) (n := 0) (by decide +kernel) (by decide +kernel) (md_o hc) rfl ?_
                refine pe_iconstv (n := 3) (v := 3) (by decide +kernel) (by decide +kernel) ?_
                refine pe_iload_n (j := 1) (by decide +kernel) rfl ?_
                refine mz_st148 (by decide +kernel) hc hI kz_3 (by omega) (by omega) (by rw [kz_2]; simp only [MT]; omega) (fun A80 eA80 hIA80 => ?_)
                refine pe_aload_n (j := 0) (by decide +kernel) rfl ?_
                refine pe_get (j := 7) (ci := 12) (n := 0) (by decide +kernel) (by decide +kernel) (md_o hc) rfl ?_
                refine pe_iconstv (n := 4) (v := 4) (by decide +kernel) (by decide +kernel) ?_
                refine pe_iload_n (j := 2) (by decide +kernel) rfl ?_
                refine mz_st148 (by decide +kernel) hc hIA80 kz_4 (by omega) (by omega) (by simp only [MT]; omega) (fun A81 eA81 hIA81 => ?_)
                refine pe_vret (by decide +kernel) rfl ⟨rfl, rfl, ?_⟩
                show pmE pg X pg_tyl pg_cl (d + 3) 210 44 [.ref 147, .int x1, .int x2, .int (f 6)] [] (md wc f A81) _
                refine pe_aload_n (j := 0) (by decide +kernel) rfl ?_
                have hr_3_f := hI.1 3
                simp only [MF] at hr_3_f
                refine pz_callV (j := 127) (mj := 201) (by decide +kernel) (cll_V (args := []) (n := 0) (by decide +kernel) rfl rfl (md_o hc) (by decide +kernel) (Nat.le_of_ble_eq_true rfl) (Nat.le_of_ble_eq_true rfl)) (MM_201 hc hIA81) (fun q82a q82b q82c q82d hqq82 => ?_)
                obtain ⟨f83, eq82, hIq82, hGq82, hX0q82, kq82⟩ := hqq82
                cases eq82
                refine ⟨rfl, rfl, ?_⟩
                have hr_5_f83 := hIq82.1 5
                simp only [MF] at hr_5_f83
                have hr_3_f83 := hIq82.1 3
                simp only [MF] at hr_3_f83
                show pmE pg X pg_tyl pg_cl (d + 3) 210 48 [.ref 147, .int x1, .int x2, .int (f 6)] [] (md wc f83 A81) _
                refine pe_iload_n (j := 3) (by decide +kernel) rfl ?_
                refine pe_iload_n (j := 1) (by decide +kernel) rfl ?_
                refine pe_iload_n (j := 2) (by decide +kernel) rfl ?_
                refine pi_S (j := 119) (mj := 199) (by decide +kernel) (by decide +kernel) rfl ?_
                show pmE pg X pg_tyl pg_cl (d + 2) 199 0 [.int (f 6), .int x1, .int x2] [] (md wc f83 A81) _
                refine pe_iload_n (j := 0) (by decide +kernel) rfl ?_
                refine pe_iload_n (j := 1) (by decide +kernel) rfl ?_
                refine pz_icmp_lt (off := 12) (t := 14) (by decide +kernel) (by decide) rfl rfl rfl (fun h84 => by omega) (fun h84 => ?_)
                refine pe_iload_n (j := 0) (by decide +kernel) rfl ?_
                refine pe_iload_n (j := 2) (by decide +kernel) rfl ?_
                refine pz_icmp_gt (off := 7) (t := 14) (by decide +kernel) (by decide) rfl rfl rfl (fun h85 => ?_) (fun h85 => ?_)
                · skip
                  refine pe_iconstv (n := 0) (v := 0) (by decide +kernel) (by decide +kernel) ?_
                  refine pe_iret (by decide +kernel) rfl rfl ⟨rfl, rfl, ?_⟩
                  show pmE pg X pg_tyl pg_cl (d + 3) 210 54 [.ref 147, .int x1, .int x2, .int (f 6)] [.int 0] (md wc f83 A81) _
                  refine pz_if_eq (off := 7) (t := 61) (by decide +kernel) (by decide) rfl kz_0 (fun h86 => ?_) (fun h86 => by omega)
                  refine pe_iload_n (j := 1) (by decide +kernel) rfl ?_
                  have hx87 : (f83 8).toInt = (f 8).toInt := (congrArg Int32.toInt (show f83 8 = (f 8) from (hGq82 8 (by decide) (by decide) (by decide) (by decide) (by decide)))).trans rfl
                  exact pe_iret (by decide +kernel) rfl rfl ⟨f83, A81, x1, rfl, hIq82, (fun k n3 n4 n5 n6 n7 n8 => (hGq82 k n3 n4 n5 n6 n7)), (fun k n148 => (upa_fr eA81 n148).trans (upa_fr eA80 n148)), (by omega), (by omega), (by omega), ⟨(by omega), trivial⟩⟩
                · skip
                  refine pe_iconstv (n := 1) (v := 1) (by decide +kernel) (by decide +kernel) ?_
                  refine pe_goto (off := 4) (t := 15) (by decide +kernel) (by decide) rfl ?_
                  refine pe_iret (by decide +kernel) rfl rfl ⟨rfl, rfl, ?_⟩
                  show pmE pg X pg_tyl pg_cl (d + 3) 210 54 [.ref 147, .int x1, .int x2, .int (f 6)] [.int 1] (md wc f83 A81) _
                  refine pz_if_eq (off := 7) (t := 61) (by decide +kernel) (by decide) rfl kz_1 (fun h88 => by omega) (fun h88 => ?_)
                  refine pe_iload_n (j := 3) (by decide +kernel) rfl ?_
                  refine pe_goto (off := 4) (t := 62) (by decide +kernel) (by decide) rfl ?_
                  have hx89 : (f83 8).toInt = (f 8).toInt := (congrArg Int32.toInt (show f83 8 = (f 8) from (hGq82 8 (by decide) (by decide) (by decide) (by decide) (by decide)))).trans rfl
                  exact pe_iret (by decide +kernel) rfl rfl ⟨f83, A81, (f 6), rfl, hIq82, (fun k n3 n4 n5 n6 n7 n8 => (hGq82 k n3 n4 n5 n6 n7)), (fun k n148 => (upa_fr eA81 n148).trans (upa_fr eA80 n148)), (by omega), (by omega), (by omega), ⟨(by omega), trivial⟩⟩
              · skip
                refine pe_aload_n (j := 0) (by decide +kernel) rfl ?_
                refine pe_get (j := 7) (ci := 12) (n := 0) (by decide +kernel) (by decide +kernel) (md_o hc) rfl ?_
                refine pe_iconstv (n := 3) (v := 3) (by decide +kernel) (by decide +kernel) ?_
                refine mz_ld148 (by decide +kernel) hc hI kz_3 (by omega) (by omega) (fun v90 ev90 pv90 => ?_)
                rw [ev90.trans ev53.symm]
                clear pv90 ev90 v90
                refine pe_iload_n (j := 1) (by decide +kernel) rfl ?_
                refine pz_icmp_gt (off := 4) (t := 47) (by decide +kernel) (by decide) rfl rfl kz_2 (fun h91 => ?_) (fun h91 => ?_)
                · skip
                  refine pe_aload_n (j := 0) (by decide +kernel) rfl ?_
                  refine pe_get (j := 7) (ci := 12) (n := 0) (by decide +kernel) (by decide +kernel) (md_o hc) rfl ?_
                  refine pe_iconstv (n := 3) (v := 3) (by decide +kernel) (by decide +kernel) ?_
                  refine pe_iload_n (j := 1) (by decide +kernel) rfl ?_
                  refine mz_st148 (by decide +kernel) hc hI kz_3 (by omega) (by omega) (by rw [kz_2]; simp only [MT]; omega) (fun A92 eA92 hIA92 => ?_)
                  refine pe_aload_n (j := 0) (by decide +kernel) rfl ?_
                  refine pe_get (j := 7) (ci := 12) (n := 0) (by decide +kernel) (by decide +kernel) (md_o hc) rfl ?_
                  refine pe_iconstv (n := 4) (v := 4) (by decide +kernel) (by decide +kernel) ?_
                  refine pe_iload_n (j := 2) (by decide +kernel) rfl ?_
                  refine mz_st148 (by decide +kernel) hc hIA92 kz_4 (by omega) (by omega) (by simp only [MT]; omega) (fun A93 eA93 hIA93 => ?_)
                  refine pe_vret (by decide +kernel) rfl ⟨rfl, rfl, ?_⟩
                  show pmE pg X pg_tyl pg_cl (d + 3) 210 44 [.ref 147, .int x1, .int x2, .int (f 6)] [] (md wc f A93) _
                  refine pe_aload_n (j := 0) (by decide +kernel) rfl ?_
                  have hr_3_f := hI.1 3
                  simp only [MF] at hr_3_f
                  refine pz_callV (j := 127) (mj := 201) (by decide +kernel) (cll_V (args := []) (n := 0) (by decide +kernel) rfl rfl (md_o hc) (by decide +kernel) (Nat.le_of_ble_eq_true rfl) (Nat.le_of_ble_eq_true rfl)) (MM_201 hc hIA93) (fun q94a q94b q94c q94d hqq94 => ?_)
                  obtain ⟨f95, eq94, hIq94, hGq94, hX0q94, kq94⟩ := hqq94
                  cases eq94
                  refine ⟨rfl, rfl, ?_⟩
                  have hr_5_f95 := hIq94.1 5
                  simp only [MF] at hr_5_f95
                  have hr_3_f95 := hIq94.1 3
                  simp only [MF] at hr_3_f95
                  show pmE pg X pg_tyl pg_cl (d + 3) 210 48 [.ref 147, .int x1, .int x2, .int (f 6)] [] (md wc f95 A93) _
                  refine pe_iload_n (j := 3) (by decide +kernel) rfl ?_
                  refine pe_iload_n (j := 1) (by decide +kernel) rfl ?_
                  refine pe_iload_n (j := 2) (by decide +kernel) rfl ?_
                  refine pi_S (j := 119) (mj := 199) (by decide +kernel) (by decide +kernel) rfl ?_
                  show pmE pg X pg_tyl pg_cl (d + 2) 199 0 [.int (f 6), .int x1, .int x2] [] (md wc f95 A93) _
                  refine pe_iload_n (j := 0) (by decide +kernel) rfl ?_
                  refine pe_iload_n (j := 1) (by decide +kernel) rfl ?_
                  refine pz_icmp_lt (off := 12) (t := 14) (by decide +kernel) (by decide) rfl rfl rfl (fun h96 => by omega) (fun h96 => ?_)
                  refine pe_iload_n (j := 0) (by decide +kernel) rfl ?_
                  refine pe_iload_n (j := 2) (by decide +kernel) rfl ?_
                  refine pz_icmp_gt (off := 7) (t := 14) (by decide +kernel) (by decide) rfl rfl rfl (fun h97 => ?_) (fun h97 => ?_)
                  · skip
                    refine pe_iconstv (n := 0) (v := 0) (by decide +kernel) (by decide +kernel) ?_
                    refine pe_iret (by decide +kernel) rfl rfl ⟨rfl, rfl, ?_⟩
                    show pmE pg X pg_tyl pg_cl (d + 3) 210 54 [.ref 147, .int x1, .int x2, .int (f 6)] [.int 0] (md wc f95 A93) _
                    refine pz_if_eq (off := 7) (t := 61) (by decide +kernel) (by decide) rfl kz_0 (fun h98 => ?_) (fun h98 => by omega)
                    refine pe_iload_n (j := 1) (by decide +kernel) rfl ?_
                    have hx99 : (f95 8).toInt = (f 8).toInt := (congrArg Int32.toInt (show f95 8 = (f 8) from (hGq94 8 (by decide) (by decide) (by decide) (by decide) (by decide)))).trans rfl
                    exact pe_iret (by decide +kernel) rfl rfl ⟨f95, A93, x1, rfl, hIq94, (fun k n3 n4 n5 n6 n7 n8 => (hGq94 k n3 n4 n5 n6 n7)), (fun k n148 => (upa_fr eA93 n148).trans (upa_fr eA92 n148)), (by omega), (by omega), (by omega), ⟨(by omega), trivial⟩⟩
                  · skip
                    refine pe_iconstv (n := 1) (v := 1) (by decide +kernel) (by decide +kernel) ?_
                    refine pe_goto (off := 4) (t := 15) (by decide +kernel) (by decide) rfl ?_
                    refine pe_iret (by decide +kernel) rfl rfl ⟨rfl, rfl, ?_⟩
                    show pmE pg X pg_tyl pg_cl (d + 3) 210 54 [.ref 147, .int x1, .int x2, .int (f 6)] [.int 1] (md wc f95 A93) _
                    refine pz_if_eq (off := 7) (t := 61) (by decide +kernel) (by decide) rfl kz_1 (fun h100 => by omega) (fun h100 => ?_)
                    refine pe_iload_n (j := 3) (by decide +kernel) rfl ?_
                    refine pe_goto (off := 4) (t := 62) (by decide +kernel) (by decide) rfl ?_
                    have hx101 : (f95 8).toInt = (f 8).toInt := (congrArg Int32.toInt (show f95 8 = (f 8) from (hGq94 8 (by decide) (by decide) (by decide) (by decide) (by decide)))).trans rfl
                    exact pe_iret (by decide +kernel) rfl rfl ⟨f95, A93, (f 6), rfl, hIq94, (fun k n3 n4 n5 n6 n7 n8 => (hGq94 k n3 n4 n5 n6 n7)), (fun k n148 => (upa_fr eA93 n148).trans (upa_fr eA92 n148)), (by omega), (by omega), (by omega), ⟨(by omega), trivial⟩⟩
                · skip
                  refine pe_vret (by decide +kernel) rfl ⟨rfl, rfl, ?_⟩
                  show pmE pg X pg_tyl pg_cl (d + 3) 210 44 [.ref 147, .int x1, .int x2, .int (f 6)] [] (md wc f A) _
                  refine pe_aload_n (j := 0) (by decide +kernel) rfl ?_
                  have hr_3_f := hI.1 3
                  simp only [MF] at hr_3_f
                  refine pz_callV (j := 127) (mj := 201) (by decide +kernel) (cll_V (args := []) (n := 0) (by decide +kernel) rfl rfl (md_o hc) (by decide +kernel) (Nat.le_of_ble_eq_true rfl) (Nat.le_of_ble_eq_true rfl)) (MM_201 hc hI) (fun q102a q102b q102c q102d hqq102 => ?_)
                  obtain ⟨f103, eq102, hIq102, hGq102, hX0q102, kq102⟩ := hqq102
                  cases eq102
                  refine ⟨rfl, rfl, ?_⟩
                  have hr_5_f103 := hIq102.1 5
                  simp only [MF] at hr_5_f103
                  have hr_3_f103 := hIq102.1 3
                  simp only [MF] at hr_3_f103
                  show pmE pg X pg_tyl pg_cl (d + 3) 210 48 [.ref 147, .int x1, .int x2, .int (f 6)] [] (md wc f103 A) _
                  refine pe_iload_n (j := 3) (by decide +kernel) rfl ?_
                  refine pe_iload_n (j := 1) (by decide +kernel) rfl ?_
                  refine pe_iload_n (j := 2) (by decide +kernel) rfl ?_
                  refine pi_S (j := 119) (mj := 199) (by decide +kernel) (by decide +kernel) rfl ?_
                  show pmE pg X pg_tyl pg_cl (d + 2) 199 0 [.int (f 6), .int x1, .int x2] [] (md wc f103 A) _
                  refine pe_iload_n (j := 0) (by decide +kernel) rfl ?_
                  refine pe_iload_n (j := 1) (by decide +kernel) rfl ?_
                  refine pz_icmp_lt (off := 12) (t := 14) (by decide +kernel) (by decide) rfl rfl rfl (fun h104 => by omega) (fun h104 => ?_)
                  refine pe_iload_n (j := 0) (by decide +kernel) rfl ?_
                  refine pe_iload_n (j := 2) (by decide +kernel) rfl ?_
                  refine pz_icmp_gt (off := 7) (t := 14) (by decide +kernel) (by decide) rfl rfl rfl (fun h105 => ?_) (fun h105 => ?_)
                  · skip
                    refine pe_iconstv (n := 0) (v := 0) (by decide +kernel) (by decide +kernel) ?_
                    refine pe_iret (by decide +kernel) rfl rfl ⟨rfl, rfl, ?_⟩
                    show pmE pg X pg_tyl pg_cl (d + 3) 210 54 [.ref 147, .int x1, .int x2, .int (f 6)] [.int 0] (md wc f103 A) _
                    refine pz_if_eq (off := 7) (t := 61) (by decide +kernel) (by decide) rfl kz_0 (fun h106 => ?_) (fun h106 => by omega)
                    refine pe_iload_n (j := 1) (by decide +kernel) rfl ?_
                    have hx107 : (f103 8).toInt = (f 8).toInt := (congrArg Int32.toInt (show f103 8 = (f 8) from (hGq102 8 (by decide) (by decide) (by decide) (by decide) (by decide)))).trans rfl
                    exact pe_iret (by decide +kernel) rfl rfl ⟨f103, A, x1, rfl, hIq102, (fun k n3 n4 n5 n6 n7 n8 => (hGq102 k n3 n4 n5 n6 n7)), (fun k n148 => rfl), (by omega), (by omega), (by omega), ⟨(by omega), trivial⟩⟩
                  · skip
                    refine pe_iconstv (n := 1) (v := 1) (by decide +kernel) (by decide +kernel) ?_
                    refine pe_goto (off := 4) (t := 15) (by decide +kernel) (by decide) rfl ?_
                    refine pe_iret (by decide +kernel) rfl rfl ⟨rfl, rfl, ?_⟩
                    show pmE pg X pg_tyl pg_cl (d + 3) 210 54 [.ref 147, .int x1, .int x2, .int (f 6)] [.int 1] (md wc f103 A) _
                    refine pz_if_eq (off := 7) (t := 61) (by decide +kernel) (by decide) rfl kz_1 (fun h108 => by omega) (fun h108 => ?_)
                    refine pe_iload_n (j := 3) (by decide +kernel) rfl ?_
                    refine pe_goto (off := 4) (t := 62) (by decide +kernel) (by decide) rfl ?_
                    have hx109 : (f103 8).toInt = (f 8).toInt := (congrArg Int32.toInt (show f103 8 = (f 8) from (hGq102 8 (by decide) (by decide) (by decide) (by decide) (by decide)))).trans rfl
                    exact pe_iret (by decide +kernel) rfl rfl ⟨f103, A, (f 6), rfl, hIq102, (fun k n3 n4 n5 n6 n7 n8 => (hGq102 k n3 n4 n5 n6 n7)), (fun k n148 => rfl), (by omega), (by omega), (by omega), ⟨(by omega), trivial⟩⟩
        · skip
          refine pe_iconstv (n := 1) (v := 1) (by decide +kernel) (by decide +kernel) ?_
          refine pe_goto (off := 4) (t := 15) (by decide +kernel) (by decide) rfl ?_
          refine pe_iret (by decide +kernel) rfl rfl ⟨rfl, rfl, ?_⟩
          show pmE pg X pg_tyl pg_cl (d + 3) 210 32 [.ref 147, .int x1, .int x2, .int (f 6)] [.int 1] (md wc f A) _
          refine pz_if_ne (off := 12) (t := 44) (by decide +kernel) (by decide) rfl kz_1 (fun h110 => ?_) (fun h110 => by omega)
          refine pe_aload_n (j := 0) (by decide +kernel) rfl ?_
          have hr_3_f := hI.1 3
          simp only [MF] at hr_3_f
          refine pz_callV (j := 127) (mj := 201) (by decide +kernel) (cll_V (args := []) (n := 0) (by decide +kernel) rfl rfl (md_o hc) (by decide +kernel) (Nat.le_of_ble_eq_true rfl) (Nat.le_of_ble_eq_true rfl)) (MM_201 hc hI) (fun q111a q111b q111c q111d hqq111 => ?_)
          obtain ⟨f112, eq111, hIq111, hGq111, hX0q111, kq111⟩ := hqq111
          cases eq111
          refine ⟨rfl, rfl, ?_⟩
          have hr_5_f112 := hIq111.1 5
          simp only [MF] at hr_5_f112
          have hr_3_f112 := hIq111.1 3
          simp only [MF] at hr_3_f112
          show pmE pg X pg_tyl pg_cl (d + 3) 210 48 [.ref 147, .int x1, .int x2, .int (f 6)] [] (md wc f112 A) _
          refine pe_iload_n (j := 3) (by decide +kernel) rfl ?_
          refine pe_iload_n (j := 1) (by decide +kernel) rfl ?_
          refine pe_iload_n (j := 2) (by decide +kernel) rfl ?_
          refine pi_S (j := 119) (mj := 199) (by decide +kernel) (by decide +kernel) rfl ?_
          show pmE pg X pg_tyl pg_cl (d + 2) 199 0 [.int (f 6), .int x1, .int x2] [] (md wc f112 A) _
          refine pe_iload_n (j := 0) (by decide +kernel) rfl ?_
          refine pe_iload_n (j := 1) (by decide +kernel) rfl ?_
          refine pz_icmp_lt (off := 12) (t := 14) (by decide +kernel) (by decide) rfl rfl rfl (fun h113 => by omega) (fun h113 => ?_)
          refine pe_iload_n (j := 0) (by decide +kernel) rfl ?_
          refine pe_iload_n (j := 2) (by decide +kernel) rfl ?_
          refine pz_icmp_gt (off := 7) (t := 14) (by decide +kernel) (by decide) rfl rfl rfl (fun h114 => ?_) (fun h114 => ?_)
          · skip
            refine pe_iconstv (n := 0) (v := 0) (by decide +kernel) (by decide +kernel) ?_
            refine pe_iret (by decide +kernel) rfl rfl ⟨rfl, rfl, ?_⟩
            show pmE pg X pg_tyl pg_cl (d + 3) 210 54 [.ref 147, .int x1, .int x2, .int (f 6)] [.int 0] (md wc f112 A) _
            refine pz_if_eq (off := 7) (t := 61) (by decide +kernel) (by decide) rfl kz_0 (fun h115 => ?_) (fun h115 => by omega)
            refine pe_iload_n (j := 1) (by decide +kernel) rfl ?_
            have hx116 : (f112 8).toInt = (f 8).toInt := (congrArg Int32.toInt (show f112 8 = (f 8) from (hGq111 8 (by decide) (by decide) (by decide) (by decide) (by decide)))).trans rfl
            exact pe_iret (by decide +kernel) rfl rfl ⟨f112, A, x1, rfl, hIq111, (fun k n3 n4 n5 n6 n7 n8 => (hGq111 k n3 n4 n5 n6 n7)), (fun k n148 => rfl), (by omega), (by omega), (by omega), ⟨(by omega), trivial⟩⟩
          · skip
            refine pe_iconstv (n := 1) (v := 1) (by decide +kernel) (by decide +kernel) ?_
            refine pe_goto (off := 4) (t := 15) (by decide +kernel) (by decide) rfl ?_
            refine pe_iret (by decide +kernel) rfl rfl ⟨rfl, rfl, ?_⟩
            show pmE pg X pg_tyl pg_cl (d + 3) 210 54 [.ref 147, .int x1, .int x2, .int (f 6)] [.int 1] (md wc f112 A) _
            refine pz_if_eq (off := 7) (t := 61) (by decide +kernel) (by decide) rfl kz_1 (fun h117 => by omega) (fun h117 => ?_)
            refine pe_iload_n (j := 3) (by decide +kernel) rfl ?_
            refine pe_goto (off := 4) (t := 62) (by decide +kernel) (by decide) rfl ?_
            have hx118 : (f112 8).toInt = (f 8).toInt := (congrArg Int32.toInt (show f112 8 = (f 8) from (hGq111 8 (by decide) (by decide) (by decide) (by decide) (by decide)))).trans rfl
            exact pe_iret (by decide +kernel) rfl rfl ⟨f112, A, (f 6), rfl, hIq111, (fun k n3 n4 n5 n6 n7 n8 => (hGq111 k n3 n4 n5 n6 n7)), (fun k n148 => rfl), (by omega), (by omega), (by omega), ⟨(by omega), trivial⟩⟩
    · skip
      refine pe_aload_n (j := 0) (by decide +kernel) rfl ?_
      refine pi_V (j := 116) (mj := 209) (by decide +kernel) (cll_V (args := []) (n := 0) (by decide +kernel) rfl rfl (md_o hc) (by decide +kernel) (Nat.le_of_ble_eq_true rfl) (Nat.le_of_ble_eq_true rfl)) ?_
      show pmE pg X pg_tyl pg_cl (d + 2) 209 0 [.ref 147] [] (md wc f A) _
      refine pe_aload_n (j := 0) (by decide +kernel) rfl ?_
      refine pe_get (j := 112) (ci := 12) (n := 8) (by decide +kernel) (by decide +kernel) (md_o hc) rfl ?_
      refine pz_if_eq (off := 4) (t := 8) (by decide +kernel) (by decide) rfl rfl (fun h119 => ?_) (fun h119 => by omega)
      refine pe_aload_n (j := 0) (by decide +kernel) rfl ?_
      refine pe_iconstv (n := 1) (v := 1) (by decide +kernel) (by decide +kernel) ?_
      refine mz_put8 (jj := 112) (by decide +kernel) (by decide +kernel) hc hI (by decide +kernel) (by decide +kernel) (by decide +kernel) (fun f120 ef120 hIf120 => ?_)
      refine pe_aload_n (j := 0) (by decide +kernel) rfl ?_
      refine pe_get (j := 7) (ci := 12) (n := 0) (by decide +kernel) (by decide +kernel) (md_o hc) rfl ?_
      refine pe_iconstv (n := 3) (v := 3) (by decide +kernel) (by decide +kernel) ?_
      refine pe_iconstv (n := 1) (v := 1) (by decide +kernel) (by decide +kernel) ?_
      refine mz_st148 (by decide +kernel) hc hIf120 kz_3 (by omega) (by omega) (by rw [kz_1]; simp only [MT]; omega) (fun A121 eA121 hIA121 => ?_)
      refine pe_aload_n (j := 0) (by decide +kernel) rfl ?_
      refine pe_get (j := 7) (ci := 12) (n := 0) (by decide +kernel) (by decide +kernel) (md_o hc) rfl ?_
      refine pe_iconstv (n := 4) (v := 4) (by decide +kernel) (by decide +kernel) ?_
      refine pe_aload_n (j := 0) (by decide +kernel) rfl ?_
      refine pe_get (j := 90) (ci := 12) (n := 4) (by decide +kernel) (by decide +kernel) (md_o hc) rfl ?_
      refine pe_top (v := (f 4)) (upf_fr ef120 (by decide)) ?_
      refine mz_st148 (by decide +kernel) hc hIA121 kz_4 (by omega) (by omega) (by simp only [MT]; omega) (fun A122 eA122 hIA122 => ?_)
      refine pe_vret (by decide +kernel) rfl ⟨rfl, rfl, ?_⟩
      show pmE pg X pg_tyl pg_cl (d + 3) 210 19 [.ref 147, .int x1, .int x2, pm_dead] [] (md wc f120 A122) _
      refine pe_iload_n (j := 1) (by decide +kernel) rfl ?_
      have hr_3_f := hI.1 3
      simp only [MF] at hr_3_f
      have hx123 : (f120 3).toInt = (f 3).toInt := (congrArg Int32.toInt (show f120 3 = (f 3) from upf_fr ef120 (by decide))).trans rfl
      have hx124 : (f120 5).toInt = (f 5).toInt := (congrArg Int32.toInt (show f120 5 = (f 5) from upf_fr ef120 (by decide))).trans rfl
      have hx125 : (f120 8).toInt = 1 := (congrArg Int32.toInt (show f120 8 = 1 from upf_at ef120)).trans kz_1
      exact pe_iret (by decide +kernel) rfl rfl ⟨f120, A122, x1, rfl, hIA122, (fun k n3 n4 n5 n6 n7 n8 => upf_fr ef120 n8), (fun k n148 => (upa_fr eA122 n148).trans (upa_fr eA121 n148)), (by omega), (by omega), (by omega), ⟨(by omega), trivial⟩⟩
