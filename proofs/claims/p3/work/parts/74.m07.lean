set_option maxRecDepth 100000 in
set_option maxHeartbeats 8000000 in
theorem MM_208 {X : pm_X} {d : Nat} {wc : pm_W} {f : Nat → Int32} {A : Nat → List Int32} {x1 x2 : Int32} (hc : wc.length = 147) (hI : MI f A) : pmE pg X pg_tyl pg_cl (d + 3) 208 0 (pm_ent (pm_max pg 208) [.ref 147, .int x1, .int x2]) [] (md wc f A) (fun q => ∃ (f' : Nat → Int32) (A' : Nat → List Int32) (r : Int32), q = (some (.int r), md wc f' A', 0, 0) ∧ MI f' A' ∧ (∀ k : Nat, k ≠ 3 → k ≠ 4 → k ≠ 5 → k ≠ 6 → k ≠ 7 → k ≠ 8 → f' k = f k) ∧ (∀ k : Nat, k ≠ 148 → A' k = A k) ∧ ((True ∧ True))) := by
  show pmE pg X pg_tyl pg_cl (d + 3) 208 0 [.ref 147, .int x1, .int x2, pm_dead] [] (md wc f A) _
  refine pe_aload_n (j := 0) (by decide +kernel) rfl ?_
  refine pe_get (j := 112) (ci := 12) (n := 8) (by decide +kernel) (by decide +kernel) (md_o hc) rfl ?_
  have hr_8_f := hI.1 8
  simp only [MF] at hr_8_f
  refine pz_if_ne (off := 23) (t := 27) (by decide +kernel) (by decide) rfl rfl (fun h1 => ?_) (fun h1 => ?_)
  · skip
    refine pe_aload_n (j := 0) (by decide +kernel) rfl ?_
    refine pi_V (j := 116) (mj := 209) (by decide +kernel) (cll_V (args := []) (n := 0) (by decide +kernel) rfl rfl (md_o hc) (by decide +kernel) (Nat.le_of_ble_eq_true rfl) (Nat.le_of_ble_eq_true rfl)) ?_
    show pmE pg X pg_tyl pg_cl (d + 2) 209 0 [.ref 147] [] (md wc f A) _
    refine pe_aload_n (j := 0) (by decide +kernel) rfl ?_
    refine pe_get (j := 112) (ci := 12) (n := 8) (by decide +kernel) (by decide +kernel) (md_o hc) rfl ?_
    refine pz_if_eq (off := 4) (t := 8) (by decide +kernel) (by decide) rfl rfl (fun h2 => by omega) (fun h2 => ?_)
    refine pe_vret (by decide +kernel) rfl ⟨rfl, rfl, ?_⟩
    show pmE pg X pg_tyl pg_cl (d + 3) 208 31 [.ref 147, .int x1, .int x2, pm_dead] [] (md wc f A) _
    refine pe_iconstv (n := 0) (v := 0) (by decide +kernel) (by decide +kernel) ?_
    exact pe_iret (by decide +kernel) rfl rfl ⟨f, A, 0, rfl, hI, (fun k n3 n4 n5 n6 n7 n8 => rfl), (fun k n148 => rfl), ⟨trivial, trivial⟩⟩
  · skip
    refine pe_aload_n (j := 0) (by decide +kernel) rfl ?_
    refine pe_get (j := 93) (ci := 12) (n := 5) (by decide +kernel) (by decide +kernel) (md_o hc) rfl ?_
    have hr_5_f := hI.1 5
    simp only [MF] at hr_5_f
    refine pe_iconstv (n := 3) (v := 3) (by decide +kernel) (by decide +kernel) ?_
    refine pz_icmp_ne (off := 15) (t := 27) (by decide +kernel) (by decide) rfl rfl kz_3 (fun h3 => ?_) (fun h3 => ?_)
    · skip
      refine pe_aload_n (j := 0) (by decide +kernel) rfl ?_
      refine pi_V (j := 116) (mj := 209) (by decide +kernel) (cll_V (args := []) (n := 0) (by decide +kernel) rfl rfl (md_o hc) (by decide +kernel) (Nat.le_of_ble_eq_true rfl) (Nat.le_of_ble_eq_true rfl)) ?_
      show pmE pg X pg_tyl pg_cl (d + 2) 209 0 [.ref 147] [] (md wc f A) _
      refine pe_aload_n (j := 0) (by decide +kernel) rfl ?_
      refine pe_get (j := 112) (ci := 12) (n := 8) (by decide +kernel) (by decide +kernel) (md_o hc) rfl ?_
      refine pz_if_eq (off := 4) (t := 8) (by decide +kernel) (by decide) rfl rfl (fun h4 => ?_) (fun h4 => by omega)
      refine pe_aload_n (j := 0) (by decide +kernel) rfl ?_
      refine pe_iconstv (n := 1) (v := 1) (by decide +kernel) (by decide +kernel) ?_
      refine mz_put8 (jj := 112) (by decide +kernel) (by decide +kernel) hc hI (by decide +kernel) (by decide +kernel) (by decide +kernel) (fun f5 ef5 hIf5 => ?_)
      refine pe_aload_n (j := 0) (by decide +kernel) rfl ?_
      refine pe_get (j := 7) (ci := 12) (n := 0) (by decide +kernel) (by decide +kernel) (md_o hc) rfl ?_
      refine pe_iconstv (n := 3) (v := 3) (by decide +kernel) (by decide +kernel) ?_
      refine pe_iconstv (n := 1) (v := 1) (by decide +kernel) (by decide +kernel) ?_
      refine mz_st148 (by decide +kernel) hc hIf5 kz_3 (by omega) (by omega) (by rw [kz_1]; simp only [MT]; omega) (fun A6 eA6 hIA6 => ?_)
      refine pe_aload_n (j := 0) (by decide +kernel) rfl ?_
      refine pe_get (j := 7) (ci := 12) (n := 0) (by decide +kernel) (by decide +kernel) (md_o hc) rfl ?_
      refine pe_iconstv (n := 4) (v := 4) (by decide +kernel) (by decide +kernel) ?_
      refine pe_aload_n (j := 0) (by decide +kernel) rfl ?_
      refine pe_get (j := 90) (ci := 12) (n := 4) (by decide +kernel) (by decide +kernel) (md_o hc) rfl ?_
      refine pe_top (v := (f 4)) (upf_fr ef5 (by decide)) ?_
      refine mz_st148 (by decide +kernel) hc hIA6 kz_4 (by omega) (by omega) (by simp only [MT]; omega) (fun A7 eA7 hIA7 => ?_)
      refine pe_vret (by decide +kernel) rfl ⟨rfl, rfl, ?_⟩
      show pmE pg X pg_tyl pg_cl (d + 3) 208 31 [.ref 147, .int x1, .int x2, pm_dead] [] (md wc f5 A7) _
      refine pe_iconstv (n := 0) (v := 0) (by decide +kernel) (by decide +kernel) ?_
      exact pe_iret (by decide +kernel) rfl rfl ⟨f5, A7, 0, rfl, hIA7, (fun k n3 n4 n5 n6 n7 n8 => upf_fr ef5 n8), (fun k n148 => (upa_fr eA7 n148).trans (upa_fr eA6 n148)), ⟨trivial, trivial⟩⟩
    · skip
      refine pe_aload_n (j := 0) (by decide +kernel) rfl ?_
      refine pe_get (j := 103) (ci := 12) (n := 7) (by decide +kernel) (by decide +kernel) (md_o hc) rfl ?_
      refine pe_iload_n (j := 1) (by decide +kernel) rfl ?_
      refine pe_iload_n (j := 2) (by decide +kernel) rfl ?_
      refine pi_S (j := 119) (mj := 199) (by decide +kernel) (by decide +kernel) rfl ?_
      show pmE pg X pg_tyl pg_cl (d + 2) 199 0 [.int (f 7), .int x1, .int x2] [] (md wc f A) _
      refine pe_iload_n (j := 0) (by decide +kernel) rfl ?_
      refine pe_iload_n (j := 1) (by decide +kernel) rfl ?_
      refine pz_icmp_lt (off := 12) (t := 14) (by decide +kernel) (by decide) rfl rfl rfl (fun h8 => ?_) (fun h8 => ?_)
      · skip
        refine pe_iconstv (n := 0) (v := 0) (by decide +kernel) (by decide +kernel) ?_
        refine pe_iret (by decide +kernel) rfl rfl ⟨rfl, rfl, ?_⟩
        show pmE pg X pg_tyl pg_cl (d + 3) 208 24 [.ref 147, .int x1, .int x2, pm_dead] [.int 0] (md wc f A) _
        refine pz_if_ne (off := 9) (t := 33) (by decide +kernel) (by decide) rfl kz_0 (fun h9 => by omega) (fun h9 => ?_)
        refine pe_aload_n (j := 0) (by decide +kernel) rfl ?_
        refine pi_V (j := 116) (mj := 209) (by decide +kernel) (cll_V (args := []) (n := 0) (by decide +kernel) rfl rfl (md_o hc) (by decide +kernel) (Nat.le_of_ble_eq_true rfl) (Nat.le_of_ble_eq_true rfl)) ?_
        show pmE pg X pg_tyl pg_cl (d + 2) 209 0 [.ref 147] [] (md wc f A) _
        refine pe_aload_n (j := 0) (by decide +kernel) rfl ?_
        refine pe_get (j := 112) (ci := 12) (n := 8) (by decide +kernel) (by decide +kernel) (md_o hc) rfl ?_
        refine pz_if_eq (off := 4) (t := 8) (by decide +kernel) (by decide) rfl rfl (fun h10 => ?_) (fun h10 => by omega)
        refine pe_aload_n (j := 0) (by decide +kernel) rfl ?_
        refine pe_iconstv (n := 1) (v := 1) (by decide +kernel) (by decide +kernel) ?_
        refine mz_put8 (jj := 112) (by decide +kernel) (by decide +kernel) hc hI (by decide +kernel) (by decide +kernel) (by decide +kernel) (fun f11 ef11 hIf11 => ?_)
        refine pe_aload_n (j := 0) (by decide +kernel) rfl ?_
        refine pe_get (j := 7) (ci := 12) (n := 0) (by decide +kernel) (by decide +kernel) (md_o hc) rfl ?_
        refine pe_iconstv (n := 3) (v := 3) (by decide +kernel) (by decide +kernel) ?_
        refine pe_iconstv (n := 1) (v := 1) (by decide +kernel) (by decide +kernel) ?_
        refine mz_st148 (by decide +kernel) hc hIf11 kz_3 (by omega) (by omega) (by rw [kz_1]; simp only [MT]; omega) (fun A12 eA12 hIA12 => ?_)
        refine pe_aload_n (j := 0) (by decide +kernel) rfl ?_
        refine pe_get (j := 7) (ci := 12) (n := 0) (by decide +kernel) (by decide +kernel) (md_o hc) rfl ?_
        refine pe_iconstv (n := 4) (v := 4) (by decide +kernel) (by decide +kernel) ?_
        refine pe_aload_n (j := 0) (by decide +kernel) rfl ?_
        refine pe_get (j := 90) (ci := 12) (n := 4) (by decide +kernel) (by decide +kernel) (md_o hc) rfl ?_
        refine pe_top (v := (f 4)) (upf_fr ef11 (by decide)) ?_
        refine mz_st148 (by decide +kernel) hc hIA12 kz_4 (by omega) (by omega) (by simp only [MT]; omega) (fun A13 eA13 hIA13 => ?_)
        refine pe_vret (by decide +kernel) rfl ⟨rfl, rfl, ?_⟩
        show pmE pg X pg_tyl pg_cl (d + 3) 208 31 [.ref 147, .int x1, .int x2, pm_dead] [] (md wc f11 A13) _
        refine pe_iconstv (n := 0) (v := 0) (by decide +kernel) (by decide +kernel) ?_
        exact pe_iret (by decide +kernel) rfl rfl ⟨f11, A13, 0, rfl, hIA13, (fun k n3 n4 n5 n6 n7 n8 => upf_fr ef11 n8), (fun k n148 => (upa_fr eA13 n148).trans (upa_fr eA12 n148)), ⟨trivial, trivial⟩⟩
      · skip
        refine pe_iload_n (j := 0) (by decide +kernel) rfl ?_
        refine pe_iload_n (j := 2) (by decide +kernel) rfl ?_
        refine pz_icmp_gt (off := 7) (t := 14) (by decide +kernel) (by decide) rfl rfl rfl (fun h14 => ?_) (fun h14 => ?_)
        · skip
          refine pe_iconstv (n := 0) (v := 0) (by decide +kernel) (by decide +kernel) ?_
          refine pe_iret (by decide +kernel) rfl rfl ⟨rfl, rfl, ?_⟩
          show pmE pg X pg_tyl pg_cl (d + 3) 208 24 [.ref 147, .int x1, .int x2, pm_dead] [.int 0] (md wc f A) _
          refine pz_if_ne (off := 9) (t := 33) (by decide +kernel) (by decide) rfl kz_0 (fun h15 => by omega) (fun h15 => ?_)
          refine pe_aload_n (j := 0) (by decide +kernel) rfl ?_
          refine pi_V (j := 116) (mj := 209) (by decide +kernel) (cll_V (args := []) (n := 0) (by decide +kernel) rfl rfl (md_o hc) (by decide +kernel) (Nat.le_of_ble_eq_true rfl) (Nat.le_of_ble_eq_true rfl)) ?_
          show pmE pg X pg_tyl pg_cl (d + 2) 209 0 [.ref 147] [] (md wc f A) _
          refine pe_aload_n (j := 0) (by decide +kernel) rfl ?_
          refine pe_get (j := 112) (ci := 12) (n := 8) (by decide +kernel) (by decide +kernel) (md_o hc) rfl ?_
          refine pz_if_eq (off := 4) (t := 8) (by decide +kernel) (by decide) rfl rfl (fun h16 => ?_) (fun h16 => by omega)
          refine pe_aload_n (j := 0) (by decide +kernel) rfl ?_
          refine pe_iconstv (n := 1) (v := 1) (by decide +kernel) (by decide +kernel) ?_
          refine mz_put8 (jj := 112) (by decide +kernel) (by decide +kernel) hc hI (by decide +kernel) (by decide +kernel) (by decide +kernel) (fun f17 ef17 hIf17 => ?_)
          refine pe_aload_n (j := 0) (by decide +kernel) rfl ?_
          refine pe_get (j := 7) (ci := 12) (n := 0) (by decide +kernel) (by decide +kernel) (md_o hc) rfl ?_
          refine pe_iconstv (n := 3) (v := 3) (by decide +kernel) (by decide +kernel) ?_
          refine pe_iconstv (n := 1) (v := 1) (by decide +kernel) (by decide +kernel) ?_
          refine mz_st148 (by decide +kernel) hc hIf17 kz_3 (by omega) (by omega) (by rw [kz_1]; simp only [MT]; omega) (fun A18 eA18 hIA18 => ?_)
          refine pe_aload_n (j := 0) (by decide +kernel) rfl ?_
          refine pe_get (j := 7) (ci := 12) (n := 0) (by decide +kernel) (by decide +kernel) (md_o hc) rfl ?_
          refine pe_iconstv (n := 4) (v := 4) (by decide +kernel) (by decide +kernel) ?_
          refine pe_aload_n (j := 0) (by decide +kernel) rfl ?_
          refine pe_get (j := 90) (ci := 12) (n := 4) (by decide +kernel) (by decide +kernel) (md_o hc) rfl ?_
          refine pe_top (v := (f 4)) (upf_fr ef17 (by decide)) ?_
          refine mz_st148 (by decide +kernel) hc hIA18 kz_4 (by omega) (by omega) (by simp only [MT]; omega) (fun A19 eA19 hIA19 => ?_)
          refine pe_vret (by decide +kernel) rfl ⟨rfl, rfl, ?_⟩
          show pmE pg X pg_tyl pg_cl (d + 3) 208 31 [.ref 147, .int x1, .int x2, pm_dead] [] (md wc f17 A19) _
          refine pe_iconstv (n := 0) (v := 0) (by decide +kernel) (by decide +kernel) ?_
          exact pe_iret (by decide +kernel) rfl rfl ⟨f17, A19, 0, rfl, hIA19, (fun k n3 n4 n5 n6 n7 n8 => upf_fr ef17 n8), (fun k n148 => (upa_fr eA19 n148).trans (upa_fr eA18 n148)), ⟨trivial, trivial⟩⟩
        · skip
          refine pe_iconstv (n := 1) (v := 1) (by decide +kernel) (by decide +kernel) ?_
          refine pe_goto (off := 4) (t := 15) (by decide +kernel) (by decide) rfl ?_
          refine pe_iret (by decide +kernel) rfl rfl ⟨rfl, rfl, ?_⟩
          show pmE pg X pg_tyl pg_cl (d + 3) 208 24 [.ref 147, .int x1, .int x2, pm_dead] [.int 1] (md wc f A) _
          refine pz_if_ne (off := 9) (t := 33) (by decide +kernel) (by decide) rfl kz_1 (fun h20 => ?_) (fun h20 => by omega)
          refine pe_aload_n (j := 0) (by decide +kernel) rfl ?_
          refine pe_get (j := 103) (ci := 12) (n := 7) (by decide +kernel) (by decide +kernel) (md_o hc) rfl ?_
          refine pe_istore_n (j := 3) (ls' := [.ref 147, .int x1, .int x2, .int (f 7)]) (by decide +kernel) (Nat.le_of_ble_eq_true rfl) rfl ?_
          refine pe_aload_n (j := 0) (by decide +kernel) rfl ?_
          refine pz_callV (j := 127) (mj := 201) (by decide +kernel) (cll_V (args := []) (n := 0) (by decide +kernel) rfl rfl (md_o hc) (by decide +kernel) (Nat.le_of_ble_eq_true rfl) (Nat.le_of_ble_eq_true rfl)) (MM_201 hc hI) (fun q21a q21b q21c q21d hqq21 => ?_)
          obtain ⟨f22, eq21, hIq21, hGq21, kq21⟩ := hqq21
          cases eq21
          refine ⟨rfl, rfl, ?_⟩
          show pmE pg X pg_tyl pg_cl (d + 3) 208 42 [.ref 147, .int x1, .int x2, .int (f 7)] [] (md wc f22 A) _
          refine pe_iload_n (j := 3) (by decide +kernel) rfl ?_
          exact pe_iret (by decide +kernel) rfl rfl ⟨f22, A, (f 7), rfl, hIq21, (fun k n3 n4 n5 n6 n7 n8 => (hGq21 k n3 n4 n5 n6 n7)), (fun k n148 => rfl), ⟨trivial, trivial⟩⟩
set_option maxRecDepth 100000 in
set_option maxHeartbeats 8000000 in
theorem MM_210 {X : pm_X} {d : Nat} {wc : pm_W} {f : Nat → Int32} {A : Nat → List Int32} {x1 x2 : Int32} (hc : wc.length = 147) (hI : MI f A) : pmE pg X pg_tyl pg_cl (d + 3) 210 0 (pm_ent (pm_max pg 210) [.ref 147, .int x1, .int x2]) [] (md wc f A) (fun q => ∃ (f' : Nat → Int32) (A' : Nat → List Int32) (r : Int32), q = (some (.int r), md wc f' A', 0, 0) ∧ MI f' A' ∧ (∀ k : Nat, k ≠ 3 → k ≠ 4 → k ≠ 5 → k ≠ 6 → k ≠ 7 → k ≠ 8 → f' k = f k) ∧ (∀ k : Nat, k ≠ 148 → A' k = A k) ∧ ((True ∧ True))) := by
  show pmE pg X pg_tyl pg_cl (d + 3) 210 0 [.ref 147, .int x1, .int x2, pm_dead] [] (md wc f A) _
  refine pe_aload_n (j := 0) (by decide +kernel) rfl ?_
  refine pe_get (j := 112) (ci := 12) (n := 8) (by decide +kernel) (by decide +kernel) (md_o hc) rfl ?_
  have hr_8_f := hI.1 8
  simp only [MF] at hr_8_f
  refine pz_if_ne (off := 11) (t := 15) (by decide +kernel) (by decide) rfl rfl (fun h1 => ?_) (fun h1 => ?_)
  · skip
    refine pe_aload_n (j := 0) (by decide +kernel) rfl ?_
    refine pi_V (j := 116) (mj := 209) (by decide +kernel) (cll_V (args := []) (n := 0) (by decide +kernel) rfl rfl (md_o hc) (by decide +kernel) (Nat.le_of_ble_eq_true rfl) (Nat.le_of_ble_eq_true rfl)) ?_
    show pmE pg X pg_tyl pg_cl (d + 2) 209 0 [.ref 147] [] (md wc f A) _
    refine pe_aload_n (j := 0) (by decide +kernel) rfl ?_
    refine pe_get (j := 112) (ci := 12) (n := 8) (by decide +kernel) (by decide +kernel) (md_o hc) rfl ?_
    refine pz_if_eq (off := 4) (t := 8) (by decide +kernel) (by decide) rfl rfl (fun h2 => by omega) (fun h2 => ?_)
    refine pe_vret (by decide +kernel) rfl ⟨rfl, rfl, ?_⟩
    show pmE pg X pg_tyl pg_cl (d + 3) 210 19 [.ref 147, .int x1, .int x2, pm_dead] [] (md wc f A) _
    refine pe_iload_n (j := 1) (by decide +kernel) rfl ?_
    exact pe_iret (by decide +kernel) rfl rfl ⟨f, A, x1, rfl, hI, (fun k n3 n4 n5 n6 n7 n8 => rfl), (fun k n148 => rfl), ⟨trivial, trivial⟩⟩
  · skip
    refine pe_aload_n (j := 0) (by decide +kernel) rfl ?_
    refine pe_get (j := 93) (ci := 12) (n := 5) (by decide +kernel) (by decide +kernel) (md_o hc) rfl ?_
    have hr_5_f := hI.1 5
    simp only [MF] at hr_5_f
    refine pe_iconstv (n := 1) (v := 1) (by decide +kernel) (by decide +kernel) ?_
    refine pz_icmp_eq (off := 9) (t := 21) (by decide +kernel) (by decide) rfl rfl kz_1 (fun h3 => ?_) (fun h3 => ?_)
    · skip
      refine pe_aload_n (j := 0) (by decide +kernel) rfl ?_
      refine pe_get (j := 109) (ci := 12) (n := 6) (by decide +kernel) (by decide +kernel) (md_o hc) rfl ?_
      refine pe_istore_n (j := 3) (ls' := [.ref 147, .int x1, .int x2, .int (f 6)]) (by decide +kernel) (Nat.le_of_ble_eq_true rfl) rfl ?_
      refine pe_iload_n (j := 3) (by decide +kernel) rfl ?_
      refine pe_iload_n (j := 1) (by decide +kernel) rfl ?_
      refine pe_iload_n (j := 2) (by decide +kernel) rfl ?_
      refine pi_S (j := 119) (mj := 199) (by decide +kernel) (by decide +kernel) rfl ?_
      show pmE pg X pg_tyl pg_cl (d + 2) 199 0 [.int (f 6), .int x1, .int x2] [] (md wc f A) _
      refine pe_iload_n (j := 0) (by decide +kernel) rfl ?_
      refine pe_iload_n (j := 1) (by decide +kernel) rfl ?_
      refine pz_icmp_lt (off := 12) (t := 14) (by decide +kernel) (by decide) rfl rfl rfl (fun h4 => ?_) (fun h4 => ?_)
      · skip
        refine pe_iconstv (n := 0) (v := 0) (by decide +kernel) (by decide +kernel) ?_
        refine pe_iret (by decide +kernel) rfl rfl ⟨rfl, rfl, ?_⟩
        show pmE pg X pg_tyl pg_cl (d + 3) 210 32 [.ref 147, .int x1, .int x2, .int (f 6)] [.int 0] (md wc f A) _
        refine pz_if_ne (off := 12) (t := 44) (by decide +kernel) (by decide) rfl kz_0 (fun h5 => by omega) (fun h5 => ?_)
        refine pe_aload_n (j := 0) (by decide +kernel) rfl ?_
        refine pe_iconstv (n := 2) (v := 2) (by decide +kernel) (by decide +kernel) ?_
        refine pe_aload_n (j := 0) (by decide +kernel) rfl ?_
        refine pe_get (j := 90) (ci := 12) (n := 4) (by decide +kernel) (by decide +kernel) (md_o hc) rfl ?_
        refine pi_V (j := 123) (mj := 211) (by decide +kernel) (cll_V (args := [.int (f 4), .int 2]) (n := 2) (by decide +kernel) rfl rfl (md_o hc) (by decide +kernel) (Nat.le_of_ble_eq_true rfl) (Nat.le_of_ble_eq_true rfl)) ?_
        show pmE pg X pg_tyl pg_cl (d + 2) 211 0 [.ref 147, .int 2, .int (f 4)] [] (md wc f A) _
        refine pe_aload_n (j := 0) (by decide +kernel) rfl ?_
        refine pe_get (j := 112) (ci := 12) (n := 8) (by decide +kernel) (by decide +kernel) (md_o hc) rfl ?_
        refine pz_if_ne (off := 42) (t := 46) (by decide +kernel) (by decide) rfl rfl (fun h6 => by omega) (fun h6 => ?_)
        refine pe_aload_n (j := 0) (by decide +kernel) rfl ?_
        refine pe_get (j := 7) (ci := 12) (n := 0) (by decide +kernel) (by decide +kernel) (md_o hc) rfl ?_
        refine pe_iconstv (n := 3) (v := 3) (by decide +kernel) (by decide +kernel) ?_
        refine mz_ld148 (by decide +kernel) hc hI kz_3 (by omega) (by omega) (fun v7 ev7 pv7 => ?_)
        clear pv7
        refine pz_if_eq (off := 34) (t := 47) (by decide +kernel) (by decide) rfl rfl (fun h8 => ?_) (fun h8 => ?_)
        · skip
          refine pe_aload_n (j := 0) (by decide +kernel) rfl ?_
          refine pe_get (j := 7) (ci := 12) (n := 0) (by decide +kernel) (by decide +kernel) (md_o hc) rfl ?_
          refine pe_iconstv (n := 3) (v := 3) (by decide +kernel) (by decide +kernel) ?_
          refine pe_iload_n (j := 1) (by decide +kernel) rfl ?_
          refine mz_st148 (by decide +kernel) hc hI kz_3 (by omega) (by omega) (by rw [kz_2]; simp only [MT]; omega) (fun A9 eA9 hIA9 => ?_)
          refine pe_aload_n (j := 0) (by decide +kernel) rfl ?_
          refine pe_get (j := 7) (ci := 12) (n := 0) (by decide +kernel) (by decide +kernel) (md_o hc) rfl ?_
          refine pe_iconstv (n := 4) (v := 4) (by decide +kernel) (by decide +kernel) ?_
          refine pe_iload_n (j := 2) (by decide +kernel) rfl ?_
          refine mz_st148 (by decide +kernel) hc hIA9 kz_4 (by omega) (by omega) (by simp only [MT]; omega) (fun A10 eA10 hIA10 => ?_)
          refine pe_vret (by decide +kernel) rfl ⟨rfl, rfl, ?_⟩
          show pmE pg X pg_tyl pg_cl (d + 3) 210 44 [.ref 147, .int x1, .int x2, .int (f 6)] [] (md wc f A10) _
          refine pe_aload_n (j := 0) (by decide +kernel) rfl ?_
          refine pz_callV (j := 127) (mj := 201) (by decide +kernel) (cll_V (args := []) (n := 0) (by decide +kernel) rfl rfl (md_o hc) (by decide +kernel) (Nat.le_of_ble_eq_true rfl) (Nat.le_of_ble_eq_true rfl)) (MM_201 hc hIA10) (fun q11a q11b q11c q11d hqq11 => ?_)
          obtain ⟨f12, eq11, hIq11, hGq11, kq11⟩ := hqq11
          cases eq11
          refine ⟨rfl, rfl, ?_⟩
          show pmE pg X pg_tyl pg_cl (d + 3) 210 48 [.ref 147, .int x1, .int x2, .int (f 6)] [] (md wc f12 A10) _
          refine pe_iload_n (j := 3) (by decide +kernel) rfl ?_
          refine pe_iload_n (j := 1) (by decide +kernel) rfl ?_
          refine pe_iload_n (j := 2) (by decide +kernel) rfl ?_
          refine pi_S (j := 119) (mj := 199) (by decide +kernel) (by decide +kernel) rfl ?_
          show pmE pg X pg_tyl pg_cl (d + 2) 199 0 [.int (f 6), .int x1, .int x2] [] (md wc f12 A10) _
          refine pe_iload_n (j := 0) (by decide +kernel) rfl ?_
          refine pe_iload_n (j := 1) (by decide +kernel) rfl ?_
          refine pz_icmp_lt (off := 12) (t := 14) (by decide +kernel) (by decide) rfl rfl rfl (fun h13 => ?_) (fun h13 => ?_)
          · skip
            refine pe_iconstv (n := 0) (v := 0) (by decide +kernel) (by decide +kernel) ?_
            refine pe_iret (by decide +kernel) rfl rfl ⟨rfl, rfl, ?_⟩
            show pmE pg X pg_tyl pg_cl (d + 3) 210 54 [.ref 147, .int x1, .int x2, .int (f 6)] [.int 0] (md wc f12 A10) _
            refine pz_if_eq (off := 7) (t := 61) (by decide +kernel) (by decide) rfl kz_0 (fun h14 => ?_) (fun h14 => by omega)
            refine pe_iload_n (j := 1) (by decide +kernel) rfl ?_
            exact pe_iret (by decide +kernel) rfl rfl ⟨f12, A10, x1, rfl, hIq11, (fun k n3 n4 n5 n6 n7 n8 => (hGq11 k n3 n4 n5 n6 n7)), (fun k n148 => (upa_fr eA10 n148).trans (upa_fr eA9 n148)), ⟨trivial, trivial⟩⟩
          · skip
            refine pe_iload_n (j := 0) (by decide +kernel) rfl ?_
            refine pe_iload_n (j := 2) (by decide +kernel) rfl ?_
            refine pz_icmp_gt (off := 7) (t := 14) (by decide +kernel) (by decide) rfl rfl rfl (fun h15 => ?_) (fun h15 => ?_)
            · skip
              refine pe_iconstv (n := 0) (v := 0) (by decide +kernel) (by decide +kernel) ?_
              refine pe_iret (by decide +kernel) rfl rfl ⟨rfl, rfl, ?_⟩
              show pmE pg X pg_tyl pg_cl (d + 3) 210 54 [.ref 147, .int x1, .int x2, .int (f 6)] [.int 0] (md wc f12 A10) _
              refine pz_if_eq (off := 7) (t := 61) (by decide +kernel) (by decide) rfl kz_0 (fun h16 => ?_) (fun h16 => by omega)
              refine pe_iload_n (j := 1) (by decide +kernel) rfl ?_
              exact pe_iret (by decide +kernel) rfl rfl ⟨f12, A10, x1, rfl, hIq11, (fun k n3 n4 n5 n6 n7 n8 => (hGq11 k n3 n4 n5 n6 n7)), (fun k n148 => (upa_fr eA10 n148).trans (upa_fr eA9 n148)), ⟨trivial, trivial⟩⟩
            · skip
              refine pe_iconstv (n := 1) (v := 1) (by decide +kernel) (by decide +kernel) ?_
              refine pe_goto (off := 4) (t := 15) (by decide +kernel) (by decide) rfl ?_
              refine pe_iret (by decide +kernel) rfl rfl ⟨rfl, rfl, ?_⟩
              show pmE pg X pg_tyl pg_cl (d + 3) 210 54 [.ref 147, .int x1, .int x2, .int (f 6)] [.int 1] (md wc f12 A10) _
              refine pz_if_eq (off := 7) (t := 61) (by decide +kernel) (by decide) rfl kz_1 (fun h17 => by omega) (fun h17 => ?_)
              refine pe_iload_n (j := 3) (by decide +kernel) rfl ?_
              refine pe_goto (off := 4) (t := 62) (by decide +kernel) (by decide) rfl ?_
              exact pe_iret (by decide +kernel) rfl rfl ⟨f12, A10, (f 6), rfl, hIq11, (fun k n3 n4 n5 n6 n7 n8 => (hGq11 k n3 n4 n5 n6 n7)), (fun k n148 => (upa_fr eA10 n148).trans (upa_fr eA9 n148)), ⟨trivial, trivial⟩⟩
        · skip
          refine pe_aload_n (j := 0) (by decide +kernel) rfl ?_
          refine pe_get (j := 7) (ci := 12) (n := 0) (by decide +kernel) (by decide +kernel) (md_o hc) rfl ?_
          refine pe_iconstv (n := 4) (v := 4) (by decide +kernel) (by decide +kernel) ?_
          refine mz_ld148 (by decide +kernel) hc hI kz_4 (by omega) (by omega) (fun v18 ev18 pv18 => ?_)
          clear pv18
          refine pe_iload_n (j := 2) (by decide +kernel) rfl ?_
          refine pz_icmp_lt (off := 23) (t := 46) (by decide +kernel) (by decide) rfl rfl rfl (fun h19 => ?_) (fun h19 => ?_)
          · skip
            refine pe_vret (by decide +kernel) rfl ⟨rfl, rfl, ?_⟩
            show pmE pg X pg_tyl pg_cl (d + 3) 210 44 [.ref 147, .int x1, .int x2, .int (f 6)] [] (md wc f A) _
            refine pe_aload_n (j := 0) (by decide +kernel) rfl ?_
            refine pz_callV (j := 127) (mj := 201) (by decide +kernel) (cll_V (args := []) (n := 0) (by decide +kernel) rfl rfl (md_o hc) (by decide +kernel) (Nat.le_of_ble_eq_true rfl) (Nat.le_of_ble_eq_true rfl)) (MM_201 hc hI) (fun q20a q20b q20c q20d hqq20 => ?_)
            obtain ⟨f21, eq20, hIq20, hGq20, kq20⟩ := hqq20
            cases eq20
            refine ⟨rfl, rfl, ?_⟩
            show pmE pg X pg_tyl pg_cl (d + 3) 210 48 [.ref 147, .int x1, .int x2, .int (f 6)] [] (md wc f21 A) _
            refine pe_iload_n (j := 3) (by decide +kernel) rfl ?_
            refine pe_iload_n (j := 1) (by decide +kernel) rfl ?_
            refine pe_iload_n (j := 2) (by decide +kernel) rfl ?_
            refine pi_S (j := 119) (mj := 199) (by decide +kernel) (by decide +kernel) rfl ?_
            show pmE pg X pg_tyl pg_cl (d + 2) 199 0 [.int (f 6), .int x1, .int x2] [] (md wc f21 A) _
            refine pe_iload_n (j := 0) (by decide +kernel) rfl ?_
            refine pe_iload_n (j := 1) (by decide +kernel) rfl ?_
            refine pz_icmp_lt (off := 12) (t := 14) (by decide +kernel) (by decide) rfl rfl rfl (fun h22 => ?_) (fun h22 => ?_)
            · skip
              refine pe_iconstv (n := 0) (v := 0) (by decide +kernel) (by decide +kernel) ?_
              refine pe_iret (by decide +kernel) rfl rfl ⟨rfl, rfl, ?_⟩
              show pmE pg X pg_tyl pg_cl (d + 3) 210 54 [.ref 147, .int x1, .int x2, .int (f 6)] [.int 0] (md wc f21 A) _
              refine pz_if_eq (off := 7) (t := 61) (by decide +kernel) (by decide) rfl kz_0 (fun h23 => ?_) (fun h23 => by omega)
              refine pe_iload_n (j := 1) (by decide +kernel) rfl ?_
              exact pe_iret (by decide +kernel) rfl rfl ⟨f21, A, x1, rfl, hIq20, (fun k n3 n4 n5 n6 n7 n8 => (hGq20 k n3 n4 n5 n6 n7)), (fun k n148 => rfl), ⟨trivial, trivial⟩⟩
            · skip
              refine pe_iload_n (j := 0) (by decide +kernel) rfl ?_
              refine pe_iload_n (j := 2) (by decide +kernel) rfl ?_
              refine pz_icmp_gt (off := 7) (t := 14) (by decide +kernel) (by decide) rfl rfl rfl (fun h24 => ?_) (fun h24 => ?_)
              · skip
                refine pe_iconstv (n := 0) (v := 0) (by decide +kernel) (by decide +kernel) ?_
                refine pe_iret (by decide +kernel) rfl rfl ⟨rfl, rfl, ?_⟩
                show pmE pg X pg_tyl pg_cl (d + 3) 210 54 [.ref 147, .int x1, .int x2, .int (f 6)] [.int 0] (md wc f21 A) _
                refine pz_if_eq (off := 7) (t := 61) (by decide +kernel) (by decide) rfl kz_0 (fun h25 => ?_) (fun h25 => by omega)
                refine pe_iload_n (j := 1) (by decide +kernel) rfl ?_
                exact pe_iret (by decide +kernel) rfl rfl ⟨f21, A, x1, rfl, hIq20, (fun k n3 n4 n5 n6 n7 n8 => (hGq20 k n3 n4 n5 n6 n7)), (fun k n148 => rfl), ⟨trivial, trivial⟩⟩
              · skip
                refine pe_iconstv (n := 1) (v := 1) (by decide +kernel) (by decide +kernel) ?_
                refine pe_goto (off := 4) (t := 15) (by decide +kernel) (by decide) rfl ?_
                refine pe_iret (by decide +kernel) rfl rfl ⟨rfl, rfl, ?_⟩
                show pmE pg X pg_tyl pg_cl (d + 3) 210 54 [.ref 147, .int x1, .int x2, .int (f 6)] [.int 1] (md wc f21 A) _
                refine pz_if_eq (off := 7) (t := 61) (by decide +kernel) (by decide) rfl kz_1 (fun h26 => by omega) (fun h26 => ?_)
                refine pe_iload_n (j := 3) (by decide +kernel) rfl ?_
                refine pe_goto (off := 4) (t := 62) (by decide +kernel) (by decide) rfl ?_
                exact pe_iret (by decide +kernel) rfl rfl ⟨f21, A, (f 6), rfl, hIq20, (fun k n3 n4 n5 n6 n7 n8 => (hGq20 k n3 n4 n5 n6 n7)), (fun k n148 => rfl), ⟨trivial, trivial⟩⟩
          · skip
            refine pe_aload_n (j := 0) (by decide +kernel) rfl ?_
            refine pe_get (j := 7) (ci := 12) (n := 0) (by decide +kernel) (by decide +kernel) (md_o hc) rfl ?_
            refine pe_iconstv (n := 4) (v := 4) (by decide +kernel) (by decide +kernel) ?_
            refine mz_ld148 (by decide +kernel) hc hI kz_4 (by omega) (by omega) (fun v27 ev27 pv27 => ?_)
            rw [ev27.trans ev18.symm]
            clear pv27 ev27 v27
            refine pe_iload_n (j := 2) (by decide +kernel) rfl ?_
            refine pz_icmp_ne (off := 14) (t := 47) (by decide +kernel) (by decide) rfl rfl rfl (fun h28 => ?_) (fun h28 => ?_)
            · skip
              refine pe_aload_n (j := 0) (by decide +kernel) rfl ?_
              refine pe_get (j := 7) (ci := 12) (n := 0) (by decide +kernel) (by decide +kernel) (md_o hc) rfl ?_
              refine pe_iconstv (n := 3) (v := 3) (by decide +kernel) (by decide +kernel) ?_
              refine pe_iload_n (j := 1) (by decide +kernel) rfl ?_
              refine mz_st148 (by decide +kernel) hc hI kz_3 (by omega) (by omega) (by rw [kz_2]; simp only [MT]; omega) (fun A29 eA29 hIA29 => ?_)
              refine pe_aload_n (j := 0) (by decide +kernel) rfl ?_
              refine pe_get (j := 7) (ci := 12) (n := 0) (by decide +kernel) (by decide +kernel) (md_o hc) rfl ?_
              refine pe_iconstv (n := 4) (v := 4) (by decide +kernel) (by decide +kernel) ?_
              refine pe_iload_n (j := 2) (by decide +kernel) rfl ?_
              refine mz_st148 (by decide +kernel) hc hIA29 kz_4 (by omega) (by omega) (by simp only [MT]; omega) (fun A30 eA30 hIA30 => ?_)
              refine pe_vret (by decide +kernel) rfl ⟨rfl, rfl, ?_⟩
              show pmE pg X pg_tyl pg_cl (d + 3) 210 44 [.ref 147, .int x1, .int x2, .int (f 6)] [] (md wc f A30) _
              refine pe_aload_n (j := 0) (by decide +kernel) rfl ?_
              refine pz_callV (j := 127) (mj := 201) (by decide +kernel) (cll_V (args := []) (n := 0) (by decide +kernel) rfl rfl (md_o hc) (by decide +kernel) (Nat.le_of_ble_eq_true rfl) (Nat.le_of_ble_eq_true rfl)) (MM_201 hc hIA30) (fun q31a q31b q31c q31d hqq31 => ?_)
              obtain ⟨f32, eq31, hIq31, hGq31, kq31⟩ := hqq31
              cases eq31
              refine ⟨rfl, rfl, ?_⟩
              show pmE pg X pg_tyl pg_cl (d + 3) 210 48 [.ref 147, .int x1, .int x2, .int (f 6)] [] (md wc f32 A30) _
              refine pe_iload_n (j := 3) (by decide +kernel) rfl ?_
              refine pe_iload_n (j := 1) (by decide +kernel) rfl ?_
              refine pe_iload_n (j := 2) (by decide +kernel) rfl ?_
              refine pi_S (j := 119) (mj := 199) (by decide +kernel) (by decide +kernel) rfl ?_
              show pmE pg X pg_tyl pg_cl (d + 2) 199 0 [.int (f 6), .int x1, .int x2] [] (md wc f32 A30) _
              refine pe_iload_n (j := 0) (by decide +kernel) rfl ?_
              refine pe_iload_n (j := 1) (by decide +kernel) rfl ?_
              refine pz_icmp_lt (off := 12) (t := 14) (by decide +kernel) (by decide) rfl rfl rfl (fun h33 => ?_) (fun h33 => ?_)
              · skip
                refine pe_iconstv (n := 0) (v := 0) (by decide +kernel) (by decide +kernel) ?_
                refine pe_iret (by decide +kernel) rfl rfl ⟨rfl, rfl, ?_⟩
                show pmE pg X pg_tyl pg_cl (d + 3) 210 54 [.ref 147, .int x1, .int x2, .int (f 6)] [.int 0] (md wc f32 A30) _
                refine pz_if_eq (off := 7) (t := 61) (by decide +kernel) (by decide) rfl kz_0 (fun h34 => ?_) (fun h34 => by omega)
                refine pe_iload_n (j := 1) (by decide +kernel) rfl ?_
                exact pe_iret (by decide +kernel) rfl rfl ⟨f32, A30, x1, rfl, hIq31, (fun k n3 n4 n5 n6 n7 n8 => (hGq31 k n3 n4 n5 n6 n7)), (fun k n148 => (upa_fr eA30 n148).trans (upa_fr eA29 n148)), ⟨trivial, trivial⟩⟩
              · skip
                refine pe_iload_n (j := 0) (by decide +kernel) rfl ?_
                refine pe_iload_n (j := 2) (by decide +kernel) rfl ?_
                refine pz_icmp_gt (off := 7) (t := 14) (by decide +kernel) (by decide) rfl rfl rfl (fun h35 => ?_) (fun h35 => ?_)
                · skip
                  refine pe_iconstv (n := 0) (v := 0) (by decide +kernel) (by decide +kernel) ?_
                  refine pe_iret (by decide +kernel) rfl rfl ⟨rfl, rfl, ?_⟩
                  show pmE pg X pg_tyl pg_cl (d + 3) 210 54 [.ref 147, .int x1, .int x2, .int (f 6)] [.int 0] (md wc f32 A30) _
                  refine pz_if_eq (off := 7) (t := 61) (by decide +kernel) (by decide) rfl kz_0 (fun h36 => ?_) (fun h36 => by omega)
                  refine pe_iload_n (j := 1) (by decide +kernel) rfl ?_
                  exact pe_iret (by decide +kernel) rfl rfl ⟨f32, A30, x1, rfl, hIq31, (fun k n3 n4 n5 n6 n7 n8 => (hGq31 k n3 n4 n5 n6 n7)), (fun k n148 => (upa_fr eA30 n148).trans (upa_fr eA29 n148)), ⟨trivial, trivial⟩⟩
                · skip
                  refine pe_iconstv (n := 1) (v := 1) (by decide +kernel) (by decide +kernel) ?_
                  refine pe_goto (off := 4) (t := 15) (by decide +kernel) (by decide) rfl ?_
                  refine pe_iret (by decide +kernel) rfl rfl ⟨rfl, rfl, ?_⟩
                  show pmE pg X pg_tyl pg_cl (d + 3) 210 54 [.ref 147, .int x1, .int x2, .int (f 6)] [.int 1] (md wc f32 A30) _
                  refine pz_if_eq (off := 7) (t := 61) (by decide +kernel) (by decide) rfl kz_1 (fun h37 => by omega) (fun h37 => ?_)
                  refine pe_iload_n (j := 3) (by decide +kernel) rfl ?_
                  refine pe_goto (off := 4) (t := 62) (by decide +kernel) (by decide) rfl ?_
                  exact pe_iret (by decide +kernel) rfl rfl ⟨f32, A30, (f 6), rfl, hIq31, (fun k n3 n4 n5 n6 n7 n8 => (hGq31 k n3 n4 n5 n6 n7)), (fun k n148 => (upa_fr eA30 n148).trans (upa_fr eA29 n148)), ⟨trivial, trivial⟩⟩
            · skip
              refine pe_aload_n (j := 0) (by decide +kernel) rfl ?_
              refine pe_get (j := 7) (ci := 12) (n := 0) (by decide +kernel) (by decide +kernel) (md_o hc) rfl ?_
              refine pe_iconstv (n := 3) (v := 3) (by decide +kernel) (by decide +kernel) ?_
              refine mz_ld148 (by decide +kernel) hc hI kz_3 (by omega) (by omega) (fun v38 ev38 pv38 => ?_)
              rw [ev38.trans ev7.symm]
              clear pv38 ev38 v38
              refine pe_iload_n (j := 1) (by decide +kernel) rfl ?_
              refine pz_icmp_gt (off := 4) (t := 47) (by decide +kernel) (by decide) rfl rfl kz_2 (fun h39 => ?_) (fun h39 => ?_)
              · skip
                refine pe_aload_n (j := 0) (by decide +kernel) rfl ?_
                refine pe_get (j := 7) (ci := 12) (n := 0) (by decide +kernel) (by decide +kernel) (md_o hc) rfl ?_
                refine pe_iconstv (n := 3) (v := 3) (by decide +kernel) (by decide +kernel) ?_
                refine pe_iload_n (j := 1) (by decide +kernel) rfl ?_
                refine mz_st148 (by decide +kernel) hc hI kz_3 (by omega) (by omega) (by rw [kz_2]; simp only [MT]; omega) (fun A40 eA40 hIA40 => ?_)
                refine pe_aload_n (j := 0) (by decide +kernel) rfl ?_
                refine pe_get (j := 7) (ci := 12) (n := 0) (by decide +kernel) (by decide +kernel) (md_o hc) rfl ?_
                refine pe_iconstv (n := 4) (v := 4) (by decide +kernel) (by decide +kernel) ?_
                refine pe_iload_n (j := 2) (by decide +kernel) rfl ?_
                refine mz_st148 (by decide +kernel) hc hIA40 kz_4 (by omega) (by omega) (by simp only [MT]; omega) (fun A41 eA41 hIA41 => ?_)
                refine pe_vret (by decide +kernel) rfl ⟨rfl, rfl, ?_⟩
                show pmE pg X pg_tyl pg_cl (d + 3) 210 44 [.ref 147, .int x1, .int x2, .int (f 6)] [] (md wc f A41) _
                refine pe_aload_n (j := 0) (by decide +kernel) rfl ?_
                refine pz_callV (j := 127) (mj := 201) (by decide +kernel) (cll_V (args := []) (n := 0) (by decide +kernel) rfl rfl (md_o hc) (by decide +kernel) (Nat.le_of_ble_eq_true rfl) (Nat.le_of_ble_eq_true rfl)) (MM_201 hc hIA41) (fun q42a q42b q42c q42d hqq42 => ?_)
                obtain ⟨f43, eq42, hIq42, hGq42, kq42⟩ := hqq42
                cases eq42
                refine ⟨rfl, rfl, ?_⟩
                show pmE pg X pg_tyl pg_cl (d + 3) 210 48 [.ref 147, .int x1, .int x2, .int (f 6)] [] (md wc f43 A41) _
                refine pe_iload_n (j := 3) (by decide +kernel) rfl ?_
                refine pe_iload_n (j := 1) (by decide +kernel) rfl ?_
                refine pe_iload_n (j := 2) (by decide +kernel) rfl ?_
                refine pi_S (j := 119) (mj := 199) (by decide +kernel) (by decide +kernel) rfl ?_
                show pmE pg X pg_tyl pg_cl (d + 2) 199 0 [.int (f 6), .int x1, .int x2] [] (md wc f43 A41) _
                refine pe_iload_n (j := 0) (by decide +kernel) rfl ?_
                refine pe_iload_n (j := 1) (by decide +kernel) rfl ?_
                refine pz_icmp_lt (off := 12) (t := 14) (by decide +kernel) (by decide) rfl rfl rfl (fun h44 => ?_) (fun h44 => ?_)
                · skip
                  refine pe_iconstv (n := 0) (v := 0) (by decide +kernel) (by decide +kernel) ?_
                  refine pe_iret (by decide +kernel) rfl rfl ⟨rfl, rfl, ?_⟩
                  show pmE pg X pg_tyl pg_cl (d + 3) 210 54 [.ref 147, .int x1, .int x2, .int (f 6)] [.int 0] (md wc f43 A41) _
                  refine pz_if_eq (off := 7) (t := 61) (by decide +kernel) (by decide) rfl kz_0 (fun h45 => ?_) (fun h45 => by omega)
                  refine pe_iload_n (j := 1) (by decide +kernel) rfl ?_
                  exact pe_iret (by decide +kernel) rfl rfl ⟨f43, A41, x1, rfl, hIq42, (fun k n3 n4 n5 n6 n7 n8 => (hGq42 k n3 n4 n5 n6 n7)), (fun k n148 => (upa_fr eA41 n148).trans (upa_fr eA40 n148)), ⟨trivial, trivial⟩⟩
                · skip
                  refine pe_iload_n (j := 0) (by decide +kernel) rfl ?_
                  refine pe_iload_n (j := 2) (by decide +kernel) rfl ?_
                  refine pz_icmp_gt (off := 7) (t := 14) (by decide +kernel) (by decide) rfl rfl rfl (fun h46 => ?_) (fun h46 => ?_)
                  · skip
                    refine pe_iconstv (n := 0) (v := 0) (by decide +kernel) (by decide +kernel) ?_
                    refine pe_iret (by decide +kernel) rfl rfl ⟨rfl, rfl, ?_⟩
                    show pmE pg X pg_tyl pg_cl (d + 3) 210 54 [.ref 147, .int x1, .int x2, .int (f 6)] [.int 0] (md wc f43 A41) _
                    refine pz_if_eq (off := 7) (t := 61) (by decide +kernel) (by decide) rfl kz_0 (fun h47 => ?_) (fun h47 => by omega)
                    refine pe_iload_n (j := 1) (by decide +kernel) rfl ?_
                    exact pe_iret (by decide +kernel) rfl rfl ⟨f43, A41, x1, rfl, hIq42, (fun k n3 n4 n5 n6 n7 n8 => (hGq42 k n3 n4 n5 n6 n7)), (fun k n148 => (upa_fr eA41 n148).trans (upa_fr eA40 n148)), ⟨trivial, trivial⟩⟩
                  · skip
                    refine pe_iconstv (n := 1) (v := 1) (by decide +kernel) (by decide +kernel) ?_
                    refine pe_goto (off := 4) (t := 15) (by decide +kernel) (by decide) rfl ?_
                    refine pe_iret (by decide +kernel) rfl rfl ⟨rfl, rfl, ?_⟩
                    show pmE pg X pg_tyl pg_cl (d + 3) 210 54 [.ref 147, .int x1, .int x2, .int (f 6)] [.int 1] (md wc f43 A41) _
                    refine pz_if_eq (off := 7) (t := 61) (by decide +kernel) (by decide) rfl kz_1 (fun h48 => by omega) (fun h48 => ?_)
                    refine pe_iload_n (j := 3) (by decide +kernel) rfl ?_
                    refine pe_goto (off := 4) (t := 62) (by decide +kernel) (by decide) rfl ?_
                    exact pe_iret (by decide +kernel) rfl rfl ⟨f43, A41, (f 6), rfl, hIq42, (fun k n3 n4 n5 n6 n7 n8 => (hGq42 k n3 n4 n5 n6 n7)), (fun k n148 => (upa_fr eA41 n148).trans (upa_fr eA40 n148)), ⟨trivial, trivial⟩⟩
              · skip
                refine pe_vret (by decide +kernel) rfl ⟨rfl, rfl, ?_⟩
                show pmE pg X pg_tyl pg_cl (d + 3) 210 44 [.ref 147, .int x1, .int x2, .int (f 6)] [] (md wc f A) _
                refine pe_aload_n (j := 0) (by decide +kernel) rfl ?_
                refine pz_callV (j := 127) (mj := 201) (by decide +kernel) (cll_V (args := []) (n := 0) (by decide +kernel) rfl rfl (md_o hc) (by decide +kernel) (Nat.le_of_ble_eq_true rfl) (Nat.le_of_ble_eq_true rfl)) (MM_201 hc hI) (fun q49a q49b q49c q49d hqq49 => ?_)
                obtain ⟨f50, eq49, hIq49, hGq49, kq49⟩ := hqq49
                cases eq49
                refine ⟨rfl, rfl, ?_⟩
                show pmE pg X pg_tyl pg_cl (d + 3) 210 48 [.ref 147, .int x1, .int x2, .int (f 6)] [] (md wc f50 A) _
                refine pe_iload_n (j := 3) (by decide +kernel) rfl ?_
                refine pe_iload_n (j := 1) (by decide +kernel) rfl ?_
                refine pe_iload_n (j := 2) (by decide +kernel) rfl ?_
                refine pi_S (j := 119) (mj := 199) (by decide +kernel) (by decide +kernel) rfl ?_
                show pmE pg X pg_tyl pg_cl (d + 2) 199 0 [.int (f 6), .int x1, .int x2] [] (md wc f50 A) _
                refine pe_iload_n (j := 0) (by decide +kernel) rfl ?_
                refine pe_iload_n (j := 1) (by decide +kernel) rfl ?_
                refine pz_icmp_lt (off := 12) (t := 14) (by decide +kernel) (by decide) rfl rfl rfl (fun h51 => ?_) (fun h51 => ?_)
                · skip
                  refine pe_iconstv (n := 0) (v := 0) (by decide +kernel) (by decide +kernel) ?_
                  refine pe_iret (by decide +kernel) rfl rfl ⟨rfl, rfl, ?_⟩
                  show pmE pg X pg_tyl pg_cl (d + 3) 210 54 [.ref 147, .int x1, .int x2, .int (f 6)] [.int 0] (md wc f50 A) _
                  refine pz_if_eq (off := 7) (t := 61) (by decide +kernel) (by decide) rfl kz_0 (fun h52 => ?_) (fun h52 => by omega)
                  refine pe_iload_n (j := 1) (by decide +kernel) rfl ?_
                  exact pe_iret (by decide +kernel) rfl rfl ⟨f50, A, x1, rfl, hIq49, (fun k n3 n4 n5 n6 n7 n8 => (hGq49 k n3 n4 n5 n6 n7)), (fun k n148 => rfl), ⟨trivial, trivial⟩⟩
                · skip
                  refine pe_iload_n (j := 0) (by decide +kernel) rfl ?_
                  refine pe_iload_n (j := 2) (by decide +kernel) rfl ?_
                  refine pz_icmp_gt (off := 7) (t := 14) (by decide +kernel) (by decide) rfl rfl rfl (fun h53 => ?_) (fun h53 => ?_)
                  · skip
                    refine pe_iconstv (n := 0) (v := 0) (by decide +kernel) (by decide +kernel) ?_
                    refine pe_iret (by decide +kernel) rfl rfl ⟨rfl, rfl, ?_⟩
                    show pmE pg X pg_tyl pg_cl (d + 3) 210 54 [.ref 147, .int x1, .int x2, .int (f 6)] [.int 0] (md wc f50 A) _
                    refine pz_if_eq (off := 7) (t := 61) (by decide +kernel) (by decide) rfl kz_0 (fun h54 => ?_) (fun h54 => by omega)
                    refine pe_iload_n (j := 1) (by decide +kernel) rfl ?_
                    exact pe_iret (by decide +kernel) rfl rfl ⟨f50, A, x1, rfl, hIq49, (fun k n3 n4 n5 n6 n7 n8 => (hGq49 k n3 n4 n5 n6 n7)), (fun k n148 => rfl), ⟨trivial, trivial⟩⟩
                  · skip
                    refine pe_iconstv (n := 1) (v := 1) (by decide +kernel) (by decide +kernel) ?_
                    refine pe_goto (off := 4) (t := 15) (by decide +kernel) (by decide) rfl ?_
                    refine pe_iret (by decide +kernel) rfl rfl ⟨rfl, rfl, ?_⟩
                    show pmE pg X pg_tyl pg_cl (d + 3) 210 54 [.ref 147, .int x1, .int x2, .int (f 6)] [.int 1] (md wc f50 A) _
                    refine pz_if_eq (off := 7) (t := 61) (by decide +kernel) (by decide) rfl kz_1 (fun h55 => by omega) (fun h55 => ?_)
                    refine pe_iload_n (j := 3) (by decide +kernel) rfl ?_
                    refine pe_goto (off := 4) (t := 62) (by decide +kernel) (by decide) rfl ?_
                    exact pe_iret (by decide +kernel) rfl rfl ⟨f50, A, (f 6), rfl, hIq49, (fun k n3 n4 n5 n6 n7 n8 => (hGq49 k n3 n4 n5 n6 n7)), (fun k n148 => rfl), ⟨trivial, trivial⟩⟩
      · skip
        refine pe_iload_n (j := 0) (by decide +kernel) rfl ?_
        refine pe_iload_n (j := 2) (by decide +kernel) rfl ?_
        refine pz_icmp_gt (off := 7) (t := 14) (by decide +kernel) (by decide) rfl rfl rfl (fun h56 => ?_) (fun h56 => ?_)
        · skip
          refine pe_iconstv (n := 0) (v := 0) (by decide +kernel) (by decide +kernel) ?_
          refine pe_iret (by decide +kernel) rfl rfl ⟨rfl, rfl, ?_⟩
          show pmE pg X pg_tyl pg_cl (d + 3) 210 32 [.ref 147, .int x1, .int x2, .int (f 6)] [.int 0] (md wc f A) _
          refine pz_if_ne (off := 12) (t := 44) (by decide +kernel) (by decide) rfl kz_0 (fun h57 => by omega) (fun h57 => ?_)
          refine pe_aload_n (j := 0) (by decide +kernel) rfl ?_
          refine pe_iconstv (n := 2) (v := 2) (by decide +kernel) (by decide +kernel) ?_
          refine pe_aload_n (j := 0) (by decide +kernel) rfl ?_
          refine pe_get (j := 90) (ci := 12) (n := 4) (by decide +kernel) (by decide +kernel) (md_o hc) rfl ?_
          refine pi_V (j := 123) (mj := 211) (by decide +kernel) (cll_V (args := [.int (f 4), .int 2]) (n := 2) (by decide +kernel) rfl rfl (md_o hc) (by decide +kernel) (Nat.le_of_ble_eq_true rfl) (Nat.le_of_ble_eq_true rfl)) ?_
          show pmE pg X pg_tyl pg_cl (d + 2) 211 0 [.ref 147, .int 2, .int (f 4)] [] (md wc f A) _
          refine pe_aload_n (j := 0) (by decide +kernel) rfl ?_
          refine pe_get (j := 112) (ci := 12) (n := 8) (by decide +kernel) (by decide +kernel) (md_o hc) rfl ?_
          refine pz_if_ne (off := 42) (t := 46) (by decide +kernel) (by decide) rfl rfl (fun h58 => by omega) (fun h58 => ?_)
          refine pe_aload_n (j := 0) (by decide +kernel) rfl ?_
          refine pe_get (j := 7) (ci := 12) (n := 0) (by decide +kernel) (by decide +kernel) (md_o hc) rfl ?_
          refine pe_iconstv (n := 3) (v := 3) (by decide +kernel) (by decide +kernel) ?_
          refine mz_ld148 (by decide +kernel) hc hI kz_3 (by omega) (by omega) (fun v59 ev59 pv59 => ?_)
          clear pv59
          refine pz_if_eq (off := 34) (t := 47) (by decide +kernel) (by decide) rfl rfl (fun h60 => ?_) (fun h60 => ?_)
          · skip
            refine pe_aload_n (j := 0) (by decide +kernel) rfl ?_
            refine pe_get (j := 7) (ci := 12) (n := 0) (by decide +kernel) (by decide +kernel) (md_o hc) rfl ?_
            refine pe_iconstv (n := 3) (v := 3) (by decide +kernel) (by decide +kernel) ?_
            refine pe_iload_n (j := 1) (by decide +kernel) rfl ?_
            refine mz_st148 (by decide +kernel) hc hI kz_3 (by omega) (by omega) (by rw [kz_2]; simp only [MT]; omega) (fun A61 eA61 hIA61 => ?_)
            refine pe_aload_n (j := 0) (by decide +kernel) rfl ?_
            refine pe_get (j := 7) (ci := 12) (n := 0) (by decide +kernel) (by decide +kernel) (md_o hc) rfl ?_
            refine pe_iconstv (n := 4) (v := 4) (by decide +kernel) (by decide +kernel) ?_
            refine pe_iload_n (j := 2) (by decide +kernel) rfl ?_
            refine mz_st148 (by decide +kernel) hc hIA61 kz_4 (by omega) (by omega) (by simp only [MT]; omega) (fun A62 eA62 hIA62 => ?_)
            refine pe_vret (by decide +kernel) rfl ⟨rfl, rfl, ?_⟩
            show pmE pg X pg_tyl pg_cl (d + 3) 210 44 [.ref 147, .int x1, .int x2, .int (f 6)] [] (md wc f A62) _
            refine pe_aload_n (j := 0) (by decide +kernel) rfl ?_
            refine pz_callV (j := 127) (mj := 201) (by decide +kernel) (cll_V (args := []) (n := 0) (by decide +kernel) rfl rfl (md_o hc) (by decide +kernel) (Nat.le_of_ble_eq_true rfl) (Nat.le_of_ble_eq_true rfl)) (MM_201 hc hIA62) (fun q63a q63b q63c q63d hqq63 => ?_)
            obtain ⟨f64, eq63, hIq63, hGq63, kq63⟩ := hqq63
            cases eq63
            refine ⟨rfl, rfl, ?_⟩
            show pmE pg X pg_tyl pg_cl (d + 3) 210 48 [.ref 147, .int x1, .int x2, .int (f 6)] [] (md wc f64 A62) _
            refine pe_iload_n (j := 3) (by decide +kernel) rfl ?_
            refine pe_iload_n (j := 1) (by decide +kernel) rfl ?_
            refine pe_iload_n (j := 2) (by decide +kernel) rfl ?_
            refine pi_S (j := 119) (mj := 199) (by decide +kernel) (by decide +kernel) rfl ?_
            show pmE pg X pg_tyl pg_cl (d + 2) 199 0 [.int (f 6), .int x1, .int x2] [] (md wc f64 A62) _
            refine pe_iload_n (j := 0) (by decide +kernel) rfl ?_
            refine pe_iload_n (j := 1) (by decide +kernel) rfl ?_
            refine pz_icmp_lt (off := 12) (t := 14) (by decide +kernel) (by decide) rfl rfl rfl (fun h65 => ?_) (fun h65 => ?_)
            · skip
              refine pe_iconstv (n := 0) (v := 0) (by decide +kernel) (by decide +kernel) ?_
              refine pe_iret (by decide +kernel) rfl rfl ⟨rfl, rfl, ?_⟩
              show pmE pg X pg_tyl pg_cl (d + 3) 210 54 [.ref 147, .int x1, .int x2, .int (f 6)] [.int 0] (md wc f64 A62) _
              refine pz_if_eq (off := 7) (t := 61) (by decide +kernel) (by decide) rfl kz_0 (fun h66 => ?_) (fun h66 => by omega)
              refine pe_iload_n (j := 1) (by decide +kernel) rfl ?_
              exact pe_iret (by decide +kernel) rfl rfl ⟨f64, A62, x1, rfl, hIq63, (fun k n3 n4 n5 n6 n7 n8 => (hGq63 k n3 n4 n5 n6 n7)), (fun k n148 => (upa_fr eA62 n148).trans (upa_fr eA61 n148)), ⟨trivial, trivial⟩⟩
            · skip
              refine pe_iload_n (j := 0) (by decide +kernel) rfl ?_
              refine pe_iload_n (j := 2) (by decide +kernel) rfl ?_
              refine pz_icmp_gt (off := 7) (t := 14) (by decide +kernel) (by decide) rfl rfl rfl (fun h67 => ?_) (fun h67 => ?_)
              · skip
                refine pe_iconstv (n := 0) (v := 0) (by decide +kernel) (by decide +kernel) ?_
                refine pe_iret (by decide +kernel) rfl rfl ⟨rfl, rfl, ?_⟩
                show pmE pg X pg_tyl pg_cl (d + 3) 210 54 [.ref 147, .int x1, .int x2, .int (f 6)] [.int 0] (md wc f64 A62) _
                refine pz_if_eq (off := 7) (t := 61) (by decide +kernel) (by decide) rfl kz_0 (fun h68 => ?_) (fun h68 => by omega)
                refine pe_iload_n (j := 1) (by decide +kernel) rfl ?_
                exact pe_iret (by decide +kernel) rfl rfl ⟨f64, A62, x1, rfl, hIq63, (fun k n3 n4 n5 n6 n7 n8 => (hGq63 k n3 n4 n5 n6 n7)), (fun k n148 => (upa_fr eA62 n148).trans (upa_fr eA61 n148)), ⟨trivial, trivial⟩⟩
              · skip
                refine pe_iconstv (n := 1) (v := 1) (by decide +kernel) (by decide +kernel) ?_
                refine pe_goto (off := 4) (t := 15) (by decide +kernel) (by decide) rfl ?_
                refine pe_iret (by decide +kernel) rfl rfl ⟨rfl, rfl, ?_⟩
                show pmE pg X pg_tyl pg_cl (d + 3) 210 54 [.ref 147, .int x1, .int x2, .int (f 6)] [.int 1] (md wc f64 A62) _
                refine pz_if_eq (off := 7) (t := 61) (by decide +kernel) (by decide) rfl kz_1 (fun h69 => by omega) (fun h69 => ?_)
                refine pe_iload_n (j := 3) (by decide +kernel) rfl ?_
                refine pe_goto (off := 4) (t := 62) (by decide +kernel) (by decide) rfl ?_
                exact pe_iret (by decide +kernel) rfl rfl ⟨f64, A62, (f 6), rfl, hIq63, (fun k n3 n4 n5 n6 n7 n8 => (hGq63 k n3 n4 n5 n6 n7)), (fun k n148 => (upa_fr eA62 n148).trans (upa_fr eA61 n148)), ⟨trivial, trivial⟩⟩
          · skip
            refine pe_aload_n (j := 0) (by decide +kernel) rfl ?_
            refine pe_get (j := 7) (ci := 12) (n := 0) (by decide +kernel) (by decide +kernel) (md_o hc) rfl ?_
            refine pe_iconstv (n := 4) (v := 4) (by decide +kernel) (by decide +kernel) ?_
            refine mz_ld148 (by decide +kernel) hc hI kz_4 (by omega) (by omega) (fun v70 ev70 pv70 => ?_)
            clear pv70
            refine pe_iload_n (j := 2) (by decide +kernel) rfl ?_
            refine pz_icmp_lt (off := 23) (t := 46) (by decide +kernel) (by decide) rfl rfl rfl (fun h71 => ?_) (fun h71 => ?_)
            · skip
              refine pe_vret (by decide +kernel) rfl ⟨rfl, rfl, ?_⟩
              show pmE pg X pg_tyl pg_cl (d + 3) 210 44 [.ref 147, .int x1, .int x2, .int (f 6)] [] (md wc f A) _
              refine pe_aload_n (j := 0) (by decide +kernel) rfl ?_
              refine pz_callV (j := 127) (mj := 201) (by decide +kernel) (cll_V (args := []) (n := 0) (by decide +kernel) rfl rfl (md_o hc) (by decide +kernel) (Nat.le_of_ble_eq_true rfl) (Nat.le_of_ble_eq_true rfl)) (MM_201 hc hI) (fun q72a q72b q72c q72d hqq72 => ?_)
              obtain ⟨f73, eq72, hIq72, hGq72, kq72⟩ := hqq72
              cases eq72
              refine ⟨rfl, rfl, ?_⟩
              show pmE pg X pg_tyl pg_cl (d + 3) 210 48 [.ref 147, .int x1, .int x2, .int (f 6)] [] (md wc f73 A) _
              refine pe_iload_n (j := 3) (by decide +kernel) rfl ?_
              refine pe_iload_n (j := 1) (by decide +kernel) rfl ?_
              refine pe_iload_n (j := 2) (by decide +kernel) rfl ?_
              refine pi_S (j := 119) (mj := 199) (by decide +kernel) (by decide +kernel) rfl ?_
              show pmE pg X pg_tyl pg_cl (d + 2) 199 0 [.int (f 6), .int x1, .int x2] [] (md wc f73 A) _
              refine pe_iload_n (j := 0) (by decide +kernel) rfl ?_
              refine pe_iload_n (j := 1) (by decide +kernel) rfl ?_
              refine pz_icmp_lt (off := 12) (t := 14) (by decide +kernel) (by decide) rfl rfl rfl (fun h74 => ?_) (fun h74 => ?_)
              · skip
                refine pe_iconstv (n := 0) (v := 0) (by decide +kernel) (by decide +kernel) ?_
                refine pe_iret (by decide +kernel) rfl rfl ⟨rfl, rfl, ?_⟩
                show pmE pg X pg_tyl pg_cl (d + 3) 210 54 [.ref 147, .int x1, .int x2, .int (f 6)] [.int 0] (md wc f73 A) _
                refine pz_if_eq (off := 7) (t := 61) (by decide +kernel) (by decide) rfl kz_0 (fun h75 => ?_) (fun h75 => by omega)
                refine pe_iload_n (j := 1) (by decide +kernel) rfl ?_
                exact pe_iret (by decide +kernel) rfl rfl ⟨f73, A, x1, rfl, hIq72, (fun k n3 n4 n5 n6 n7 n8 => (hGq72 k n3 n4 n5 n6 n7)), (fun k n148 => rfl), ⟨trivial, trivial⟩⟩
              · skip
                refine pe_iload_n (j := 0) (by decide +kernel) rfl ?_
                refine pe_iload_n (j := 2) (by decide +kernel) rfl ?_
                refine pz_icmp_gt (off := 7) (t := 14) (by decide +kernel) (by decide) rfl rfl rfl (fun h76 => ?_) (fun h76 => ?_)
                · skip
                  refine pe_iconstv (n := 0) (v := 0) (by decide +kernel) (by decide +kernel) ?_
                  refine pe_iret (by decide +kernel) rfl rfl ⟨rfl, rfl, ?_⟩
                  show pmE pg X pg_tyl pg_cl (d + 3) 210 54 [.ref 147, .int x1, .int x2, .int (f 6)] [.int 0] (md wc f73 A) _
                  refine pz_if_eq (off := 7) (t := 61) (by decide +kernel) (by decide) rfl kz_0 (fun h77 => ?_) (fun h77 => by omega)
                  refine pe_iload_n (j := 1) (by decide +kernel) rfl ?_
                  exact pe_iret (by decide +kernel) rfl rfl ⟨f73, A, x1, rfl, hIq72, (fun k n3 n4 n5 n6 n7 n8 => (hGq72 k n3 n4 n5 n6 n7)), (fun k n148 => rfl), ⟨trivial, trivial⟩⟩
                · skip
                  refine pe_iconstv (n := 1) (v := 1) (by decide +kernel) (by decide +kernel) ?_
                  refine pe_goto (off := 4) (t := 15) (by decide +kernel) (by decide) rfl ?_
                  refine pe_iret (by decide +kernel) rfl rfl ⟨rfl, rfl, ?_⟩
                  show pmE pg X pg_tyl pg_cl (d + 3) 210 54 [.ref 147, .int x1, .int x2, .int (f 6)] [.int 1] (md wc f73 A) _
                  refine pz_if_eq (off := 7) (t := 61) (by decide +kernel) (by decide) rfl kz_1 (fun h78 => by omega) (fun h78 => ?_)
                  refine pe_iload_n (j := 3) (by decide +kernel) rfl ?_
                  refine pe_goto (off := 4) (t := 62) (by decide +kernel) (by decide) rfl ?_
                  exact pe_iret (by decide +kernel) rfl rfl ⟨f73, A, (f 6), rfl, hIq72, (fun k n3 n4 n5 n6 n7 n8 => (hGq72 k n3 n4 n5 n6 n7)), (fun k n148 => rfl), ⟨trivial, trivial⟩⟩
            · skip
              refine pe_aload_n (j := 0) (by decide +kernel) rfl ?_
              refine pe_get (j := 7) (ci := 12) (n := 0) (by decide +kernel) (by decide +kernel) (md_o hc) rfl ?_
              refine pe_iconstv (n := 4) (v := 4) (by decide +kernel) (by decide +kernel) ?_
              refine mz_ld148 (by decide +kernel) hc hI kz_4 (by omega) (by omega) (fun v79 ev79 pv79 => ?_)
              rw [ev79.trans ev70.symm]
              clear pv79 ev79 v79
              refine pe_iload_n (j := 2) (by decide +kernel) rfl ?_
              refine pz_icmp_ne (off := 14) (t := 47) (by decide +kernel) (by decide) rfl rfl rfl (fun h80 => ?_) (fun h80 => ?_)
              · skip
                refine pe_aload_n (j := 0) (by decide +kernel) rfl ?_
                refine pe_get (j := 7) (ci := 12) (n := 0) (by decide +kernel) (by decide +kernel) (md_o hc) rfl ?_
                refine pe_iconstv (n := 3) (v := 3) (by decide +kernel) (by decide +kernel) ?_
                refine pe_iload_n (j := 1) (by decide +kernel) rfl ?_
                refine mz_st148 (by decide +kernel) hc hI kz_3 (by omega) (by omega) (by rw [kz_2]; simp only [MT]; omega) (fun A81 eA81 hIA81 => ?_)
                refine pe_aload_n (j := 0) (by decide +kernel) rfl ?_
                refine pe_get (j := 7) (ci := 12) (n := 0) (by decide +kernel) (by decide +kernel) (md_o hc) rfl ?_
                refine pe_iconstv (n := 4) (v := 4) (by decide +kernel) (by decide +kernel) ?_
                refine pe_iload_n (j := 2) (by decide +kernel) rfl ?_
                refine mz_st148 (by decide +kernel) hc hIA81 kz_4 (by omega) (by omega) (by simp only [MT]; omega) (fun A82 eA82 hIA82 => ?_)
                refine pe_vret (by decide +kernel) rfl ⟨rfl, rfl, ?_⟩
                show pmE pg X pg_tyl pg_cl (d + 3) 210 44 [.ref 147, .int x1, .int x2, .int (f 6)] [] (md wc f A82) _
                refine pe_aload_n (j := 0) (by decide +kernel) rfl ?_
                refine pz_callV (j := 127) (mj := 201) (by decide +kernel) (cll_V (args := []) (n := 0) (by decide +kernel) rfl rfl (md_o hc) (by decide +kernel) (Nat.le_of_ble_eq_true rfl) (Nat.le_of_ble_eq_true rfl)) (MM_201 hc hIA82) (fun q83a q83b q83c q83d hqq83 => ?_)
                obtain ⟨f84, eq83, hIq83, hGq83, kq83⟩ := hqq83
                cases eq83
                refine ⟨rfl, rfl, ?_⟩
                show pmE pg X pg_tyl pg_cl (d + 3) 210 48 [.ref 147, .int x1, .int x2, .int (f 6)] [] (md wc f84 A82) _
                refine pe_iload_n (j := 3) (by decide +kernel) rfl ?_
                refine pe_iload_n (j := 1) (by decide +kernel) rfl ?_
                refine pe_iload_n (j := 2) (by decide +kernel) rfl ?_
                refine pi_S (j := 119) (mj := 199) (by decide +kernel) (by decide +kernel) rfl ?_
                show pmE pg X pg_tyl pg_cl (d + 2) 199 0 [.int (f 6), .int x1, .int x2] [] (md wc f84 A82) _
                refine pe_iload_n (j := 0) (by decide +kernel) rfl ?_
                refine pe_iload_n (j := 1) (by decide +kernel) rfl ?_
                refine pz_icmp_lt (off := 12) (t := 14) (by decide +kernel) (by decide) rfl rfl rfl (fun h85 => ?_) (fun h85 => ?_)
                · skip
                  refine pe_iconstv (n := 0) (v := 0) (by decide +kernel) (by decide +kernel) ?_
                  refine pe_iret (by decide +kernel) rfl rfl ⟨rfl, rfl, ?_⟩
                  show pmE pg X pg_tyl pg_cl (d + 3) 210 54 [.ref 147, .int x1, .int x2, .int (f 6)] [.int 0] (md wc f84 A82) _
                  refine pz_if_eq (off := 7) (t := 61) (by decide +kernel) (by decide) rfl kz_0 (fun h86 => ?_) (fun h86 => by omega)
                  refine pe_iload_n (j := 1) (by decide +kernel) rfl ?_
                  exact pe_iret (by decide +kernel) rfl rfl ⟨f84, A82, x1, rfl, hIq83, (fun k n3 n4 n5 n6 n7 n8 => (hGq83 k n3 n4 n5 n6 n7)), (fun k n148 => (upa_fr eA82 n148).trans (upa_fr eA81 n148)), ⟨trivial, trivial⟩⟩
                · skip
                  refine pe_iload_n (j := 0) (by decide +kernel) rfl ?_
                  refine pe_iload_n (j := 2) (by decide +kernel) rfl ?_
                  refine pz_icmp_gt (off := 7) (t := 14) (by decide +kernel) (by decide) rfl rfl rfl (fun h87 => ?_) (fun h87 => ?_)
                  · skip
                    refine pe_iconstv (n := 0) (v := 0) (by decide +kernel) (by decide +kernel) ?_
                    refine pe_iret (by decide +kernel) rfl rfl ⟨rfl, rfl, ?_⟩
                    show pmE pg X pg_tyl pg_cl (d + 3) 210 54 [.ref 147, .int x1, .int x2, .int (f 6)] [.int 0] (md wc f84 A82) _
                    refine pz_if_eq (off := 7) (t := 61) (by decide +kernel) (by decide) rfl kz_0 (fun h88 => ?_) (fun h88 => by omega)
                    refine pe_iload_n (j := 1) (by decide +kernel) rfl ?_
                    exact pe_iret (by decide +kernel) rfl rfl ⟨f84, A82, x1, rfl, hIq83, (fun k n3 n4 n5 n6 n7 n8 => (hGq83 k n3 n4 n5 n6 n7)), (fun k n148 => (upa_fr eA82 n148).trans (upa_fr eA81 n148)), ⟨trivial, trivial⟩⟩
                  · skip
                    refine pe_iconstv (n := 1) (v := 1) (by decide +kernel) (by decide +kernel) ?_
                    refine pe_goto (off := 4) (t := 15) (by decide +kernel) (by decide) rfl ?_
                    refine pe_iret (by decide +kernel) rfl rfl ⟨rfl, rfl, ?_⟩
                    show pmE pg X pg_tyl pg_cl (d + 3) 210 54 [.ref 147, .int x1, .int x2, .int (f 6)] [.int 1] (md wc f84 A82) _
                    refine pz_if_eq (off := 7) (t := 61) (by decide +kernel) (by decide) rfl kz_1 (fun h89 => by omega) (fun h89 => ?_)
                    refine pe_iload_n (j := 3) (by decide +kernel) rfl ?_
                    refine pe_goto (off := 4) (t := 62) (by decide +kernel) (by decide) rfl ?_
                    exact pe_iret (by decide +kernel) rfl rfl ⟨f84, A82, (f 6), rfl, hIq83, (fun k n3 n4 n5 n6 n7 n8 => (hGq83 k n3 n4 n5 n6 n7)), (fun k n148 => (upa_fr eA82 n148).trans (upa_fr eA81 n148)), ⟨trivial, trivial⟩⟩
              · skip
                refine pe_aload_n (j := 0) (by decide +kernel) rfl ?_
                refine pe_get (j := 7) (ci := 12) (n := 0) (by decide +kernel) (by decide +kernel) (md_o hc) rfl ?_
                refine pe_iconstv (n := 3) (v := 3) (by decide +kernel) (by decide +kernel) ?_
                refine mz_ld148 (by decide +kernel) hc hI kz_3 (by omega) (by omega) (fun v90 ev90 pv90 => ?_)
                rw [ev90.trans ev59.symm]
                clear pv90 ev90 v90
                refine pe_iload_n (j := 1) (by decide +kernel) rfl ?_
                refine pz_icmp_gt (off := 4) (t := 47) (by decide +kernel) (by decide) rfl rfl kz_2 (fun h91 => ?_) (fun h91 => ?_)
                · skip
                  refine pe_aload_n (j := 0) (by decide +kernel) rfl ?_
                  refine pe_get (j := 7) (ci := 12) (n := 0) (by decide +kernel) (by decide +kernel) (md_o hc) rfl ?_
                  refine pe_iconstv (n := 3) (v := 3) (by decide +kernel) (by decide +kernel) ?_
                  refine pe_iload_n (j := 1) (by decide +kernel) rfl ?_
                  refine mz_st148 (by decide +kernel) hc hI kz_3 (by omega) (by omega) (by rw [kz_2]; simp only [MT]; omega) (fun A92 eA92 hIA92 => ?_)
                  refine pe_aload_n (j := 0) (by decide +kernel) rfl ?_
                  refine pe_get (j := 7) (ci := 12) (n := 0) (by decide +kernel) (by decide +kernel) (md_o hc) rfl ?_
                  refine pe_iconstv (n := 4) (v := 4) (by decide +kernel) (by decide +kernel) ?_
                  refine pe_iload_n (j := 2) (by decide +kernel) rfl ?_
                  refine mz_st148 (by decide +kernel) hc hIA92 kz_4 (by omega) (by omega) (by simp only [MT]; omega) (fun A93 eA93 hIA93 => ?_)
                  refine pe_vret (by decide +kernel) rfl ⟨rfl, rfl, ?_⟩
                  show pmE pg X pg_tyl pg_cl (d + 3) 210 44 [.ref 147, .int x1, .int x2, .int (f 6)] [] (md wc f A93) _
                  refine pe_aload_n (j := 0) (by decide +kernel) rfl ?_
                  refine pz_callV (j := 127) (mj := 201) (by decide +kernel) (cll_V (args := []) (n := 0) (by decide +kernel) rfl rfl (md_o hc) (by decide +kernel) (Nat.le_of_ble_eq_true rfl) (Nat.le_of_ble_eq_true rfl)) (MM_201 hc hIA93) (fun q94a q94b q94c q94d hqq94 => ?_)
                  obtain ⟨f95, eq94, hIq94, hGq94, kq94⟩ := hqq94
                  cases eq94
                  refine ⟨rfl, rfl, ?_⟩
                  show pmE pg X pg_tyl pg_cl (d + 3) 210 48 [.ref 147, .int x1, .int x2, .int (f 6)] [] (md wc f95 A93) _
                  refine pe_iload_n (j := 3) (by decide +kernel) rfl ?_
                  refine pe_iload_n (j := 1) (by decide +kernel) rfl ?_
                  refine pe_iload_n (j := 2) (by decide +kernel) rfl ?_
                  refine pi_S (j := 119) (mj := 199) (by decide +kernel) (by decide +kernel) rfl ?_
                  show pmE pg X pg_tyl pg_cl (d + 2) 199 0 [.int (f 6), .int x1, .int x2] [] (md wc f95 A93) _
                  refine pe_iload_n (j := 0) (by decide +kernel) rfl ?_
                  refine pe_iload_n (j := 1) (by decide +kernel) rfl ?_
                  refine pz_icmp_lt (off := 12) (t := 14) (by decide +kernel) (by decide) rfl rfl rfl (fun h96 => ?_) (fun h96 => ?_)
                  · skip
                    refine pe_iconstv (n := 0) (v := 0) (by decide +kernel) (by decide +kernel) ?_
                    refine pe_iret (by decide +kernel) rfl rfl ⟨rfl, rfl, ?_⟩
                    show pmE pg X pg_tyl pg_cl (d + 3) 210 54 [.ref 147, .int x1, .int x2, .int (f 6)] [.int 0] (md wc f95 A93) _
                    refine pz_if_eq (off := 7) (t := 61) (by decide +kernel) (by decide) rfl kz_0 (fun h97 => ?_) (fun h97 => by omega)
                    refine pe_iload_n (j := 1) (by decide +kernel) rfl ?_
                    exact pe_iret (by decide +kernel) rfl rfl ⟨f95, A93, x1, rfl, hIq94, (fun k n3 n4 n5 n6 n7 n8 => (hGq94 k n3 n4 n5 n6 n7)), (fun k n148 => (upa_fr eA93 n148).trans (upa_fr eA92 n148)), ⟨trivial, trivial⟩⟩
                  · skip
                    refine pe_iload_n (j := 0) (by decide +kernel) rfl ?_
                    refine pe_iload_n (j := 2) (by decide +kernel) rfl ?_
                    refine pz_icmp_gt (off := 7) (t := 14) (by decide +kernel) (by decide) rfl rfl rfl (fun h98 => ?_) (fun h98 => ?_)
                    · skip
                      refine pe_iconstv (n := 0) (v := 0) (by decide +kernel) (by decide +kernel) ?_
                      refine pe_iret (by decide +kernel) rfl rfl ⟨rfl, rfl, ?_⟩
                      show pmE pg X pg_tyl pg_cl (d + 3) 210 54 [.ref 147, .int x1, .int x2, .int (f 6)] [.int 0] (md wc f95 A93) _
                      refine pz_if_eq (off := 7) (t := 61) (by decide +kernel) (by decide) rfl kz_0 (fun h99 => ?_) (fun h99 => by omega)
                      refine pe_iload_n (j := 1) (by decide +kernel) rfl ?_
                      exact pe_iret (by decide +kernel) rfl rfl ⟨f95, A93, x1, rfl, hIq94, (fun k n3 n4 n5 n6 n7 n8 => (hGq94 k n3 n4 n5 n6 n7)), (fun k n148 => (upa_fr eA93 n148).trans (upa_fr eA92 n148)), ⟨trivial, trivial⟩⟩
                    · skip
                      refine pe_iconstv (n := 1) (v := 1) (by decide +kernel) (by decide +kernel) ?_
                      refine pe_goto (off := 4) (t := 15) (by decide +kernel) (by decide) rfl ?_
                      refine pe_iret (by decide +kernel) rfl rfl ⟨rfl, rfl, ?_⟩
                      show pmE pg X pg_tyl pg_cl (d + 3) 210 54 [.ref 147, .int x1, .int x2, .int (f 6)] [.int 1] (md wc f95 A93) _
                      refine pz_if_eq (off := 7) (t := 61) (by decide +kernel) (by decide) rfl kz_1 (fun h100 => by omega) (fun h100 => ?_)
                      refine pe_iload_n (j := 3) (by decide +kernel) rfl ?_
                      refine pe_goto (off := 4) (t := 62) (by decide +kernel) (by decide) rfl ?_
                      exact pe_iret (by decide +kernel) rfl rfl ⟨f95, A93, (f 6), rfl, hIq94, (fun k n3 n4 n5 n6 n7 n8 => (hGq94 k n3 n4 n5 n6 n7)), (fun k n148 => (upa_fr eA93 n148).trans (upa_fr eA92 n148)), ⟨trivial, trivial⟩⟩
                · skip
                  refine pe_vret (by decide +kernel) rfl ⟨rfl, rfl, ?_⟩
                  show pmE pg X pg_tyl pg_cl (d + 3) 210 44 [.ref 147, .int x1, .int x2, .int (f 6)] [] (md wc f A) _
                  refine pe_aload_n (j := 0) (by decide +kernel) rfl ?_
                  refine pz_callV (j := 127) (mj := 201) (by decide +kernel) (cll_V (args := []) (n := 0) (by decide +kernel) rfl rfl (md_o hc) (by decide +kernel) (Nat.le_of_ble_eq_true rfl) (Nat.le_of_ble_eq_true rfl)) (MM_201 hc hI) (fun q101a q101b q101c q101d hqq101 => ?_)
                  obtain ⟨f102, eq101, hIq101, hGq101, kq101⟩ := hqq101
                  cases eq101
                  refine ⟨rfl, rfl, ?_⟩
                  show pmE pg X pg_tyl pg_cl (d + 3) 210 48 [.ref 147, .int x1, .int x2, .int (f 6)] [] (md wc f102 A) _
                  refine pe_iload_n (j := 3) (by decide +kernel) rfl ?_
                  refine pe_iload_n (j := 1) (by decide +kernel) rfl ?_
                  refine pe_iload_n (j := 2) (by decide +kernel) rfl ?_
                  refine pi_S (j := 119) (mj := 199) (by decide +kernel) (by decide +kernel) rfl ?_
                  show pmE pg X pg_tyl pg_cl (d + 2) 199 0 [.int (f 6), .int x1, .int x2] [] (md wc f102 A) _
                  refine pe_iload_n (j := 0) (by decide +kernel) rfl ?_
                  refine pe_iload_n (j := 1) (by decide +kernel) rfl ?_
                  refine pz_icmp_lt (off := 12) (t := 14) (by decide +kernel) (by decide) rfl rfl rfl (fun h103 => ?_) (fun h103 => ?_)
                  · skip
                    refine pe_iconstv (n := 0) (v := 0) (by decide +kernel) (by decide +kernel) ?_
                    refine pe_iret (by decide +kernel) rfl rfl ⟨rfl, rfl, ?_⟩
                    show pmE pg X pg_tyl pg_cl (d + 3) 210 54 [.ref 147, .int x1, .int x2, .int (f 6)] [.int 0] (md wc f102 A) _
                    refine pz_if_eq (off := 7) (t := 61) (by decide +kernel) (by decide) rfl kz_0 (fun h104 => ?_) (fun h104 => by omega)
                    refine pe_iload_n (j := 1) (by decide +kernel) rfl ?_
                    exact pe_iret (by decide +kernel) rfl rfl ⟨f102, A, x1, rfl, hIq101, (fun k n3 n4 n5 n6 n7 n8 => (hGq101 k n3 n4 n5 n6 n7)), (fun k n148 => rfl), ⟨trivial, trivial⟩⟩
                  · skip
                    refine pe_iload_n (j := 0) (by decide +kernel) rfl ?_
                    refine pe_iload_n (j := 2) (by decide +kernel) rfl ?_
                    refine pz_icmp_gt (off := 7) (t := 14) (by decide +kernel) (by decide) rfl rfl rfl (fun h105 => ?_) (fun h105 => ?_)
                    · skip
                      refine pe_iconstv (n := 0) (v := 0) (by decide +kernel) (by decide +kernel) ?_
                      refine pe_iret (by decide +kernel) rfl rfl ⟨rfl, rfl, ?_⟩
                      show pmE pg X pg_tyl pg_cl (d + 3) 210 54 [.ref 147, .int x1, .int x2, .int (f 6)] [.int 0] (md wc f102 A) _
                      refine pz_if_eq (off := 7) (t := 61) (by decide +kernel) (by decide) rfl kz_0 (fun h106 => ?_) (fun h106 => by omega)
                      refine pe_iload_n (j := 1) (by decide +kernel) rfl ?_
                      exact pe_iret (by decide +kernel) rfl rfl ⟨f102, A, x1, rfl, hIq101, (fun k n3 n4 n5 n6 n7 n8 => (hGq101 k n3 n4 n5 n6 n7)), (fun k n148 => rfl), ⟨trivial, trivial⟩⟩
                    · skip
                      refine pe_iconstv (n := 1) (v := 1) (by decide +kernel) (by decide +kernel) ?_
                      refine pe_goto (off := 4) (t := 15) (by decide +kernel) (by decide) rfl ?_
                      refine pe_iret (by decide +kernel) rfl rfl ⟨rfl, rfl, ?_⟩
                      show pmE pg X pg_tyl pg_cl (d + 3) 210 54 [.ref 147, .int x1, .int x2, .int (f 6)] [.int 1] (md wc f102 A) _
                      refine pz_if_eq (off := 7) (t := 61) (by decide +kernel) (by decide) rfl kz_1 (fun h107 => by omega) (fun h107 => ?_)
                      refine pe_iload_n (j := 3) (by decide +kernel) rfl ?_
                      refine pe_goto (off := 4) (t := 62) (by decide +kernel) (by decide) rfl ?_
                      exact pe_iret (by decide +kernel) rfl rfl ⟨f102, A, (f 6), rfl, hIq101, (fun k n3 n4 n5 n6 n7 n8 => (hGq101 k n3 n4 n5 n6 n7)), (fun k n148 => rfl), ⟨trivial, trivial⟩⟩
        · skip
          refine pe_iconstv (n := 1) (v := 1) (by decide +kernel) (by decide +kernel) ?_
          refine pe_goto (off := 4) (t := 15) (by decide +kernel) (by decide) rfl ?_
          refine pe_iret (by decide +kernel) rfl rfl ⟨rfl, rfl, ?_⟩
          show pmE pg X pg_tyl pg_cl (d + 3) 210 32 [.ref 147, .int x1, .int x2, .int (f 6)] [.int 1] (md wc f A) _
          refine pz_if_ne (off := 12) (t := 44) (by decide +kernel) (by decide) rfl kz_1 (fun h108 => ?_) (fun h108 => by omega)
          refine pe_aload_n (j := 0) (by decide +kernel) rfl ?_
          refine pz_callV (j := 127) (mj := 201) (by decide +kernel) (cll_V (args := []) (n := 0) (by decide +kernel) rfl rfl (md_o hc) (by decide +kernel) (Nat.le_of_ble_eq_true rfl) (Nat.le_of_ble_eq_true rfl)) (MM_201 hc hI) (fun q109a q109b q109c q109d hqq109 => ?_)
          obtain ⟨f110, eq109, hIq109, hGq109, kq109⟩ := hqq109
          cases eq109
          refine ⟨rfl, rfl, ?_⟩
          show pmE pg X pg_tyl pg_cl (d + 3) 210 48 [.ref 147, .int x1, .int x2, .int (f 6)] [] (md wc f110 A) _
          refine pe_iload_n (j := 3) (by decide +kernel) rfl ?_
          refine pe_iload_n (j := 1) (by decide +kernel) rfl ?_
          refine pe_iload_n (j := 2) (by decide +kernel) rfl ?_
          refine pi_S (j := 119) (mj := 199) (by decide +kernel) (by decide +kernel) rfl ?_
          show pmE pg X pg_tyl pg_cl (d + 2) 199 0 [.int (f 6), .int x1, .int x2] [] (md wc f110 A) _
          refine pe_iload_n (j := 0) (by decide +kernel) rfl ?_
          refine pe_iload_n (j := 1) (by decide +kernel) rfl ?_
          refine pz_icmp_lt (off := 12) (t := 14) (by decide +kernel) (by decide) rfl rfl rfl (fun h111 => ?_) (fun h111 => ?_)
          · skip
            refine pe_iconstv (n := 0) (v := 0) (by decide +kernel) (by decide +kernel) ?_
            refine pe_iret (by decide +kernel) rfl rfl ⟨rfl, rfl, ?_⟩
            show pmE pg X pg_tyl pg_cl (d + 3) 210 54 [.ref 147, .int x1, .int x2, .int (f 6)] [.int 0] (md wc f110 A) _
            refine pz_if_eq (off := 7) (t := 61) (by decide +kernel) (by decide) rfl kz_0 (fun h112 => ?_) (fun h112 => by omega)
            refine pe_iload_n (j := 1) (by decide +kernel) rfl ?_
            exact pe_iret (by decide +kernel) rfl rfl ⟨f110, A, x1, rfl, hIq109, (fun k n3 n4 n5 n6 n7 n8 => (hGq109 k n3 n4 n5 n6 n7)), (fun k n148 => rfl), ⟨trivial, trivial⟩⟩
          · skip
            refine pe_iload_n (j := 0) (by decide +kernel) rfl ?_
            refine pe_iload_n (j := 2) (by decide +kernel) rfl ?_
            refine pz_icmp_gt (off := 7) (t := 14) (by decide +kernel) (by decide) rfl rfl rfl (fun h113 => ?_) (fun h113 => ?_)
            · skip
              refine pe_iconstv (n := 0) (v := 0) (by decide +kernel) (by decide +kernel) ?_
              refine pe_iret (by decide +kernel) rfl rfl ⟨rfl, rfl, ?_⟩
              show pmE pg X pg_tyl pg_cl (d + 3) 210 54 [.ref 147, .int x1, .int x2, .int (f 6)] [.int 0] (md wc f110 A) _
              refine pz_if_eq (off := 7) (t := 61) (by decide +kernel) (by decide) rfl kz_0 (fun h114 => ?_) (fun h114 => by omega)
              refine pe_iload_n (j := 1) (by decide +kernel) rfl ?_
              exact pe_iret (by decide +kernel) rfl rfl ⟨f110, A, x1, rfl, hIq109, (fun k n3 n4 n5 n6 n7 n8 => (hGq109 k n3 n4 n5 n6 n7)), (fun k n148 => rfl), ⟨trivial, trivial⟩⟩
            · skip
              refine pe_iconstv (n := 1) (v := 1) (by decide +kernel) (by decide +kernel) ?_
              refine pe_goto (off := 4) (t := 15) (by decide +kernel) (by decide) rfl ?_
              refine pe_iret (by decide +kernel) rfl rfl ⟨rfl, rfl, ?_⟩
              show pmE pg X pg_tyl pg_cl (d + 3) 210 54 [.ref 147, .int x1, .int x2, .int (f 6)] [.int 1] (md wc f110 A) _
              refine pz_if_eq (off := 7) (t := 61) (by decide +kernel) (by decide) rfl kz_1 (fun h115 => by omega) (fun h115 => ?_)
              refine pe_iload_n (j := 3) (by decide +kernel) rfl ?_
              refine pe_goto (off := 4) (t := 62) (by decide +kernel) (by decide) rfl ?_
              exact pe_iret (by decide +kernel) rfl rfl ⟨f110, A, (f 6), rfl, hIq109, (fun k n3 n4 n5 n6 n7 n8 => (hGq109 k n3 n4 n5 n6 n7)), (fun k n148 => rfl), ⟨trivial, trivial⟩⟩
    · skip
      refine pe_aload_n (j := 0) (by decide +kernel) rfl ?_
      refine pi_V (j := 116) (mj := 209) (by decide +kernel) (cll_V (args := []) (n := 0) (by decide +kernel) rfl rfl (md_o hc) (by decide +kernel) (Nat.le_of_ble_eq_true rfl) (Nat.le_of_ble_eq_true rfl)) ?_
      show pmE pg X pg_tyl pg_cl (d + 2) 209 0 [.ref 147] [] (md wc f A) _
      refine pe_aload_n (j := 0) (by decide +kernel) rfl ?_
      refine pe_get (j := 112) (ci := 12) (n := 8) (by decide +kernel) (by decide +kernel) (md_o hc) rfl ?_
      refine pz_if_eq (off := 4) (t := 8) (by decide +kernel) (by decide) rfl rfl (fun h116 => ?_) (fun h116 => by omega)
      refine pe_aload_n (j := 0) (by decide +kernel) rfl ?_
      refine pe_iconstv (n := 1) (v := 1) (by decide +kernel) (by decide +kernel) ?_
      refine mz_put8 (jj := 112) (by decide +kernel) (by decide +kernel) hc hI (by decide +kernel) (by decide +kernel) (by decide +kernel) (fun f117 ef117 hIf117 => ?_)
      refine pe_aload_n (j := 0) (by decide +kernel) rfl ?_
      refine pe_get (j := 7) (ci := 12) (n := 0) (by decide +kernel) (by decide +kernel) (md_o hc) rfl ?_
      refine pe_iconstv (n := 3) (v := 3) (by decide +kernel) (by decide +kernel) ?_
      refine pe_iconstv (n := 1) (v := 1) (by decide +kernel) (by decide +kernel) ?_
      refine mz_st148 (by decide +kernel) hc hIf117 kz_3 (by omega) (by omega) (by rw [kz_1]; simp only [MT]; omega) (fun A118 eA118 hIA118 => ?_)
      refine pe_aload_n (j := 0) (by decide +kernel) rfl ?_
      refine pe_get (j := 7) (ci := 12) (n := 0) (by decide +kernel) (by decide +kernel) (md_o hc) rfl ?_
      refine pe_iconstv (n := 4) (v := 4) (by decide +kernel) (by decide +kernel) ?_
      refine pe_aload_n (j := 0) (by decide +kernel) rfl ?_
      refine pe_get (j := 90) (ci := 12) (n := 4) (by decide +kernel) (by decide +kernel) (md_o hc) rfl ?_
      refine pe_top (v := (f 4)) (upf_fr ef117 (by decide)) ?_
      refine mz_st148 (by decide +kernel) hc hIA118 kz_4 (by omega) (by omega) (by simp only [MT]; omega) (fun A119 eA119 hIA119 => ?_)
      refine pe_vret (by decide +kernel) rfl ⟨rfl, rfl, ?_⟩
      show pmE pg X pg_tyl pg_cl (d + 3) 210 19 [.ref 147, .int x1, .int x2, pm_dead] [] (md wc f117 A119) _
      refine pe_iload_n (j := 1) (by decide +kernel) rfl ?_
      exact pe_iret (by decide +kernel) rfl rfl ⟨f117, A119, x1, rfl, hIA119, (fun k n3 n4 n5 n6 n7 n8 => upf_fr ef117 n8), (fun k n148 => (upa_fr eA119 n148).trans (upa_fr eA118 n148)), ⟨trivial, trivial⟩⟩
