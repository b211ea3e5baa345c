set_option maxRecDepth 100000 in
set_option maxHeartbeats 8000000 in
theorem MM_208 {X : pm_X} {d : Nat} {wc : pm_W} {f : Nat → Int32} {A : Nat → List Int32} {x1 x2 : Int32} (hc : wc.length = 147) (hI : MI f A) : pmE pg X pg_tyl pg_cl (d + 3) 208 0 (pm_ent (pm_max pg 208) [.ref 147, .int x1, .int x2]) [] (md wc f A) (fun q => ∃ (f' : Nat → Int32) (A' : Nat → List Int32) (r : Int32), q = (some (.int r), md wc f' A', 0, 0) ∧ MI f' A' ∧ (∀ k : Nat, k ≠ 3 → k ≠ 4 → k ≠ 5 → k ≠ 6 → k ≠ 7 → k ≠ 8 → f' k = f k) ∧ (∀ k : Nat, k ≠ 148 → A' k = A k) ∧ ((True ∧ True))) := by
  show pmE pg X pg_tyl pg_cl (d + 3) 208 0 [.ref 147, .int x1, .int x2, pm_dead] [] (md wc f A) _
  refine pe_aload_n (j := 0) (by decide +kernel) rfl ?_
  refine pe_get (j := 112) (ci := 12) (n := 8) (by decide +kernel) (by decide +kernel) (md_o hc) rfl ?_
  have hr_8_f := hI.1 8
  simp only [MF] at hr_8_f
  refine pz_if_ne (off := 23) (t := 27) (by decide +kernel) (by decide) rfl rfl (fun h1 => ?_) (fun h1 => ?_)
  · skip
    refine pe_aload_n (j := 0) (by decide +kernel) rfl ?_
    refine pi_V (j := 116) (mj := 209) (by decide +kernel) (cll_V (args := []) (n := 0) (by decide +kernel) rfl rfl (md_o hc) (by decide +kernel) (Nat.le_of_ble_eq_true rfl) (Nat.le_of_ble_eq_true rfl)) ?_
    show pmE pg X pg_tyl pg_cl (d + 2) 209 0 [.ref 147] [] (md wc f A) _
    refine pe_aload_n (j := 0) (by decide +kernel) rfl ?_
    refine pe_get (j := 112) (ci := 12) (n := 8) (by decide +kernel) (by decide +kernel) (md_o hc) rfl ?_
    refine pz_if_eq (off := 4) (t := 8) (by decide +kernel) (by decide) rfl rfl (fun h2 => by omega) (fun h2 => ?_)
    refine pe_vret (by decide +kernel) rfl ⟨rfl, rfl, ?_⟩
    show pmE pg X pg_tyl pg_cl (d + 3) 208 31 [.ref 147, .int x1, .int x2, pm_dead] [] (md wc f A) _
    refine pe_iconstv (n := 0) (v := 0) (by decide +kernel) (by decide +kernel) ?_
    exact pe_iret (by decide +kernel) rfl rfl ⟨f, A, 0, rfl, hI, (fun k n3 n4 n5 n6 n7 n8 => rfl), (fun k n148 => rfl), ⟨trivial, trivial⟩⟩
  · skip
    refine pe_aload_n (j := 0) (by decide +kernel) rfl ?_
    refine pe_get (j := 93) (ci := 12) (n := 5) (by decide +kernel) (by decide +kernel) (md_o hc) rfl ?_
    have hr_5_f := hI.1 5
    simp only [MF] at hr_5_f
    refine pe_iconstv (n := 3) (v := 3) (by decide +kernel) (by decide +kernel) ?_
    refine pz_icmp_ne (off := 15) (t := 27) (by decide +kernel) (by decide) rfl rfl kz_3 (fun h3 => ?_) (fun h3 => ?_)
    · skip
      refine pe_aload_n (j := 0) (by decide +kernel) rfl ?_
      refine pi_V (j := 116) (mj := 209) (by decide +kernel) (cll_V (args := []) (n := 0) (by decide +kernel) rfl rfl (md_o hc) (by decide +kernel) (Nat.le_of_ble_eq_true rfl) (Nat.le_of_ble_eq_true rfl)) ?_
      show pmE pg X pg_tyl pg_cl (d + 2) 209 0 [.ref 147] [] (md wc f A) _
      refine pe_aload_n (j := 0) (by decide +kernel) rfl ?_
      refine pe_get (j := 112) (ci := 12) (n := 8) (by decide +kernel) (by decide +kernel) (md_o hc) rfl ?_
      refine pz_if_eq (off := 4) (t := 8) (by decide +kernel) (by decide) rfl rfl (fun h4 => ?_) (fun h4 => by omega)
      refine pe_aload_n (j := 0) (by decide +kernel) rfl ?_
      refine pe_iconstv (n := 1) (v := 1) (by decide +kernel) (by decide +kernel) ?_
      refine mz_put8 (jj := 112) (by decide +kernel) (by decide +kernel) hc hI (by decide +kernel) (by decide +kernel) (by decide +kernel) (fun f5 ef5 hIf5 => ?_)
      refine pe_aload_n (j := 0) (by decide +kernel) rfl ?_
      refine pe_get (j := 7) (ci := 12) (n := 0) (by decide +kernel) (by decide +kernel) (md_o hc) rfl ?_
      refine pe_iconstv (n := 3) (v := 3) (by decide +kernel) (by decide +kernel) ?_
      refine pe_iconstv (n := 1) (v := 1) (by decide +kernel) (by decide +kernel) ?_
      refine mz_st148 (by decide +kernel) hc hIf5 kz_3 (by omega) (by omega) (by rw [kz_1]; simp only [MT]; omega) (fun A6 eA6 hIA6 => ?_)
      refine pe_aload_n (j := 0) (by decide +kernel) rfl ?_
      refine pe_get (j := 7) (ci := 12) (n := 0) (by decide +kernel) (by decide +kernel) (md_o hc) rfl ?_
      refine pe_iconstv (n := 4) (v := 4) (by decide +kernel) (by decide +kernel) ?_
      refine pe_aload_n (j := 0) (by decide +kernel) rfl ?_
      refine pe_get (j := 90) (ci := 12) (n := 4) (by decide +kernel) (by decide +kernel) (md_o hc) rfl ?_
      refine pe_top (v := (f 4)) (upf_fr ef5 (by decide)) ?_
      refine mz_st148 (by decide +kernel) hc hIA6 kz_4 (by omega) (by omega) (by simp only [MT]; omega) (fun A7 eA7 hIA7 => ?_)
      refine pe_vret (by decide +kernel) rfl ⟨rfl, rfl, ?_⟩
      show pmE pg X pg_tyl pg_cl (d + 3) 208 31 [.ref 147, .int x1, .int x2, pm_dead] [] (md wc f5 A7) _
      refine pe_iconstv (n := 0) (v := 0) (by decide +kernel) (by decide +kernel) ?_
      exact pe_iret (by decide +kernel) rfl rfl ⟨f5, A7, 0, rfl, hIA7, (fun k n3 n4 n5 n6 n7 n8 => upf_fr ef5 n8), (fun k n148 => (upa_fr eA7 n148).trans (upa_fr eA6 n148)), ⟨trivial, trivial⟩⟩
    · skip
      refine pe_aload_n (j := 0) (by decide +kernel) rfl ?_
      refine pe_get (j := 103) (ci := 12) (n := 7) (by decide +kernel) (by decide +kernel) (md_o hc) rfl ?_
      refine pe_iload_n (j := 1) (by decide +kernel) rfl ?_
      refine pe_iload_n (j := 2) (by decide +kernel) rfl ?_
      refine pi_S (j := 119) (mj := 199) (by decide +kernel) (by decide +kernel) rfl ?_
      show pmE pg X pg_tyl pg_cl (d + 2) 199 0 [.int (f 7), .int x1, .int x2] [] (md wc f A) _
      refine pe_iload_n (j := 0) (by decide +kernel) rfl ?_
      refine pe_iload_n (j := 1) (by decide +kernel) rfl ?_
      have lw9 := zi_lo (f 7)
      have uw9 := zi_hi (f 7)
      have lw10 := zi_lo x1
      have uw10 := zi_hi x1
      refine pz_icmp_lt (off := 12) (t := 14) (by decide +kernel) (by decide) rfl rfl rfl (fun h8 => ?_) (fun h8 => ?_)
      · skip
        refine pe_iconstv (n := 0) (v := 0) (by decide +kernel) (by decide +kernel) ?_
        refine pe_iret (by decide +kernel) rfl rfl ⟨rfl, rfl, ?_⟩
        show pmE pg X pg_tyl pg_cl (d + 3) 208 24 [.ref 147, .int x1, .int x2, pm_dead] [.int 0] (md wc f A) _
        refine pz_if_ne (off := 9) (t := 33) (by decide +kernel) (by decide) rfl kz_0 (fun h11 => by omega) (fun h11 => ?_)
        refine pe_aload_n (j := 0) (by decide +kernel) rfl ?_
        refine pi_V (j := 116) (mj := 209) (by decide +kernel) (cll_V (args := []) (n := 0) (by decide +kernel) rfl rfl (md_o hc) (by decide +kernel) (Nat.le_of_ble_eq_true rfl) (Nat.le_of_ble_eq_true rfl)) ?_
        show pmE pg X pg_tyl pg_cl (d + 2) 209 0 [.ref 147] [] (md wc f A) _
        refine pe_aload_n (j := 0) (by decide +kernel) rfl ?_
        refine pe_get (j := 112) (ci := 12) (n := 8) (by decide +kernel) (by decide +kernel) (md_o hc) rfl ?_
        refine pz_if_eq (off := 4) (t := 8) (by decide +kernel) (by decide) rfl rfl (fun h12 => ?_) (fun h12 => by omega)
        refine pe_aload_n (j := 0) (by decide +kernel) rfl ?_
        refine pe_iconstv (n := 1) (v := 1) (by decide +kernel) (by decide +kernel) ?_
        refine mz_put8 (jj := 112) (by decide +kernel) (by decide +kernel) hc hI (by decide +kernel) (by decide +kernel) (by decide +kernel) (fun f13 ef13 hIf13 => ?_)
        refine pe_aload_n (j := 0) (by decide +kernel) rfl ?_
        refine pe_get (j := 7) (ci := 12) (n := 0) (by decide +kernel) (by decide +kernel) (md_o hc) rfl ?_
        refine pe_iconstv (n := 3) (v := 3) (by decide +kernel) (by decide +kernel) ?_
        refine pe_iconstv (n := 1) (v := 1) (by decide +kernel) (by decide +kernel) ?_
        refine mz_st148 (by decide +kernel) hc hIf13 kz_3 (by omega) (by omega) (by rw [kz_1]; simp only [MT]; omega) (fun A14 eA14 hIA14 => ?_)
        refine pe_aload_n (j := 0) (by decide +kernel) rfl ?_
        refine pe_get (j := 7) (ci := 12) (n := 0) (by decide +kernel) (by decide +kernel) (md_o hc) rfl ?_
        refine pe_iconstv (n := 4) (v := 4) (by decide +kernel) (by decide +kernel) ?_
        refine pe_aload_n (j := 0) (by decide +kernel) rfl ?_
        refine pe_get (j := 90) (ci := 12) (n := 4) (by decide +kernel) (by decide +kernel) (md_o hc) rfl ?_
        refine pe_top (v := (f 4)) (upf_fr ef13 (by decide)) ?_
        refine mz_st148 (by decide +kernel) hc hIA14 kz_4 (by omega) (by omega) (by simp only [MT]; omega) (fun A15 eA15 hIA15 => ?_)
        refine pe_vret (by decide +kernel) rfl ⟨rfl, rfl, ?_⟩
        show pmE pg X pg_tyl pg_cl (d + 3) 208 31 [.ref 147, .int x1, .int x2, pm_dead] [] (md wc f13 A15) _
        refine pe_iconstv (n := 0) (v := 0) (by decide +kernel) (by decide +kernel) ?_
        exact pe_iret (by decide +kernel) rfl rfl ⟨f13, A15, 0, rfl, hIA15, (fun k n3 n4 n5 n6 n7 n8 => upf_fr ef13 n8), (fun k n148 => (upa_fr eA15 n148).trans (upa_fr eA14 n148)), ⟨trivial, trivial⟩⟩
      · skip
        refine pe_iload_n (j := 0) (by decide +kernel) rfl ?_
        refine pe_iload_n (j := 2) (by decide +kernel) rfl ?_
        have lw17 := zi_lo x2
        have uw17 := zi_hi x2
        refine pz_icmp_gt (off := 7) (t := 14) (by decide +kernel) (by decide) rfl rfl rfl (fun h16 => ?_) (fun h16 => ?_)
        · skip
          refine pe_iconstv (n := 0) (v := 0) (by decide +kernel) (by decide +kernel) ?_
          refine pe_iret (by decide +kernel) rfl rfl ⟨rfl, rfl, ?_⟩
          show pmE pg X pg_tyl pg_cl (d + 3) 208 24 [.ref 147, .int x1, .int x2, pm_dead] [.int 0] (md wc f A) _
          refine pz_if_ne (off := 9) (t := 33) (by decide +kernel) (by decide) rfl kz_0 (fun h18 => by omega) (fun h18 => ?_)
          refine pe_aload_n (j := 0) (by decide +kernel) rfl ?_
          refine pi_V (j := 116) (mj := 209) (by decide +kernel) (cll_V (args := []) (n := 0) (by decide +kernel) rfl rfl (md_o hc) (by decide +kernel) (Nat.le_of_ble_eq_true rfl) (Nat.le_of_ble_eq_true rfl)) ?_
          show pmE pg X pg_tyl pg_cl (d + 2) 209 0 [.ref 147] [] (md wc f A) _
          refine pe_aload_n (j := 0) (by decide +kernel) rfl ?_
          refine pe_get (j := 112) (ci := 12) (n := 8) (by decide +kernel) (by decide +kernel) (md_o hc) rfl ?_
          refine pz_if_eq (off := 4) (t := 8) (by decide +kernel) (by decide) rfl rfl (fun h19 => ?_) (fun h19 => by omega)
          refine pe_aload_n (j := 0) (by decide +kernel) rfl ?_
          refine pe_iconstv (n := 1) (v := 1) (by decide +kernel) (by decide +kernel) ?_
          refine mz_put8 (jj := 112) (by decide +kernel) (by decide +kernel) hc hI (by decide +kernel) (by decide +kernel) (by decide +kernel) (fun f20 ef20 hIf20 => ?_)
          refine pe_aload_n (j := 0) (by decide +kernel) rfl ?_
          refine pe_get (j := 7) (ci := 12) (n := 0) (by decide +kernel) (by decide +kernel) (md_o hc) rfl ?_
          refine pe_iconstv (n := 3) (v := 3) (by decide +kernel) (by decide +kernel) ?_
          refine pe_iconstv (n := 1) (v := 1) (by decide +kernel) (by decide +kernel) ?_
          refine mz_st148 (by decide +kernel) hc hIf20 kz_3 (by omega) (by omega) (by rw [kz_1]; simp only [MT]; omega) (fun A21 eA21 hIA21 => ?_)
          refine pe_aload_n (j := 0) (by decide +kernel) rfl ?_
          refine pe_get (j := 7) (ci := 12) (n := 0) (by decide +kernel) (by decide +kernel) (md_o hc) rfl ?_
          refine pe_iconstv (n := 4) (v := 4) (by decide +kernel) (by decide +kernel) ?_
          refine pe_aload_n (j := 0) (by decide +kernel) rfl ?_
          refine pe_get (j := 90) (ci := 12) (n := 4) (by decide +kernel) (by decide +kernel) (md_o hc) rfl ?_
          refine pe_top (v := (f 4)) (upf_fr ef20 (by decide)) ?_
          refine mz_st148 (by decide +kernel) hc hIA21 kz_4 (by omega) (by omega) (by simp only [MT]; omega) (fun A22 eA22 hIA22 => ?_)
          refine pe_vret (by decide +kernel) rfl ⟨rfl, rfl, ?_⟩
          show pmE pg X pg_tyl pg_cl (d + 3) 208 31 [.ref 147, .int x1, .int x2, pm_dead] [] (md wc f20 A22) _
          refine pe_iconstv (n := 0) (v := 0) (by decide +kernel) (by decide +kernel) ?_
          exact pe_iret (by decide +kernel) rfl rfl ⟨f20, A22, 0, rfl, hIA22, (fun k n3 n4 n5 n6 n7 n8 => upf_fr ef20 n8), (fun k n148 => (upa_fr eA22 n148).trans (upa_fr eA21 n148)), ⟨trivial, trivial⟩⟩
        · skip
          refine pe_iconstv (n := 1) (v := 1) (by decide +kernel) (by decide +kernel) ?_
          refine pe_goto (off := 4) (t := 15) (by decide +kernel) (by decide) rfl ?_
          refine pe_iret (by decide +kernel) rfl rfl ⟨rfl, rfl, ?_⟩
          show pmE pg X pg_tyl pg_cl (d + 3) 208 24 [.ref 147, .int x1, .int x2, pm_dead] [.int 1] (md wc f A) _
          refine pz_if_ne (off := 9) (t := 33) (by decide +kernel) (by decide) rfl kz_1 (fun h23 => ?_) (fun h23 => by omega)
          refine pe_aload_n (j := 0) (by decide +kernel) rfl ?_
          refine pe_get (j := 103) (ci := 12) (n := 7) (by decide +kernel) (by decide +kernel) (md_o hc) rfl ?_
          refine pe_istore_n (j := 3) (ls' := [.ref 147, .int x1, .int x2, .int (f 7)]) (by decide +kernel) (Nat.le_of_ble_eq_true rfl) rfl ?_
          refine pe_aload_n (j := 0) (by decide +kernel) rfl ?_
          refine pz_callV (j := 127) (mj := 201) (by decide +kernel) (cll_V (args := []) (n := 0) (by decide +kernel) rfl rfl (md_o hc) (by decide +kernel) (Nat.le_of_ble_eq_true rfl) (Nat.le_of_ble_eq_true rfl)) (MM_201 hc hI) (fun q24a q24b q24c q24d hqq24 => ?_)
          obtain ⟨f25, eq24, hIq24, hGq24, kq24⟩ := hqq24
          cases eq24
          refine ⟨rfl, rfl, ?_⟩
          show pmE pg X pg_tyl pg_cl (d + 3) 208 42 [.ref 147, .int x1, .int x2, .int (f 7)] [] (md wc f25 A) _
          refine pe_iload_n (j := 3) (by decide +kernel) rfl ?_
          exact pe_iret (by decide +kernel) rfl rfl ⟨f25, A, (f 7), rfl, hIq24, (fun k n3 n4 n5 n6 n7 n8 => (hGq24 k n3 n4 n5 n6 n7)), (fun k n148 => rfl), ⟨trivial, trivial⟩⟩
set_option maxRecDepth 100000 in
set_option maxHeartbeats 8000000 in
theorem MM_210 {X : pm_X} {d : Nat} {wc : pm_W} {f : Nat → Int32} {A : Nat → List Int32} {x1 x2 : Int32} (hc : wc.length = 147) (hI : MI f A) : pmE pg X pg_tyl pg_cl (d + 3) 210 0 (pm_ent (pm_max pg 210) [.ref 147, .int x1, .int x2]) [] (md wc f A) (fun q => ∃ (f' : Nat → Int32) (A' : Nat → List Int32) (r : Int32), q = (some (.int r), md wc f' A', 0, 0) ∧ MI f' A' ∧ (∀ k : Nat, k ≠ 3 → k ≠ 4 → k ≠ 5 → k ≠ 6 → k ≠ 7 → k ≠ 8 → f' k = f k) ∧ (∀ k : Nat, k ≠ 148 → A' k = A k) ∧ ((True ∧ True))) := by
  show pmE pg X pg_tyl pg_cl (d + 3) 210 0 [.ref 147, .int x1, .int x2, pm_dead] [] (md wc f A) _
  refine pe_aload_n (j := 0) (by decide +kernel) rfl ?_
  refine pe_get (j := 112) (ci := 12) (n := 8) (by decide +kernel) (by decide +kernel) (md_o hc) rfl ?_
  have hr_8_f := hI.1 8
  simp only [MF] at hr_8_f
  refine pz_if_ne (off := 11) (t := 15) (by decide +kernel) (by decide) rfl rfl (fun h1 => ?_) (fun h1 => ?_)
  · skip
    refine pe_aload_n (j := 0) (by decide +kernel) rfl ?_
    refine pi_V (j := 116) (mj := 209) (by decide +kernel) (cll_V (args := []) (n := 0) (by decide +kernel) rfl rfl (md_o hc) (by decide +kernel) (Nat.le_of_ble_eq_true rfl) (Nat.le_of_ble_eq_true rfl)) ?_
    show pmE pg X pg_tyl pg_cl (d + 2) 209 0 [.ref 147] [] (md wc f A) _
    refine pe_aload_n (j := 0) (by decide +kernel) rfl ?_
    refine pe_get (j := 112) (ci := 12) (n := 8) (by decide +kernel) (by decide +kernel) (md_o hc) rfl ?_
    refine pz_if_eq (off := 4) (t := 8) (by decide +kernel) (by decide) rfl rfl (fun h2 => by omega) (fun h2 => ?_)
    refine pe_vret (by decide +kernel) rfl ⟨rfl, rfl, ?_⟩
    show pmE pg X pg_tyl pg_cl (d + 3) 210 19 [.ref 147, .int x1, .int x2, pm_dead] [] (md wc f A) _
    refine pe_iload_n (j := 1) (by decide +kernel) rfl ?_
    exact pe_iret (by decide +kernel) rfl rfl ⟨f, A, x1, rfl, hI, (fun k n3 n4 n5 n6 n7 n8 => rfl), (fun k n148 => rfl), ⟨trivial, trivial⟩⟩
  · skip
    refine pe_aload_n (j := 0) (by decide +kernel) rfl ?_
    refine pe_get (j := 93) (ci := 12) (n := 5) (by decide +kernel) (by decide +kernel) (md_o hc) rfl ?_
    have hr_5_f := hI.1 5
    simp only [MF] at hr_5_f
    refine pe_iconstv (n := 1) (v := 1) (by decide +kernel) (by decide +kernel) ?_
    refine pz_icmp_eq (off := 9) (t := 21) (by decide +kernel) (by decide) rfl rfl kz_1 (fun h3 => ?_) (fun h3 => ?_)
    · skip
      refine pe_aload_n (j := 0) (by decide +kernel) rfl ?_
      refine pe_get (j := 109) (ci := 12) (n := 6) (by decide +kernel) (by decide +kernel) (md_o hc) rfl ?_
      refine pe_istore_n (j := 3) (ls' := [.ref 147, .int x1, .int x2, .int (f 6)]) (by decide +kernel) (Nat.le_of_ble_eq_true rfl) rfl ?_
      refine pe_iload_n (j := 3) (by decide +kernel) rfl ?_
      refine pe_iload_n (j := 1) (by decide +kernel) rfl ?_
      refine pe_iload_n (j := 2) (by decide +kernel) rfl ?_
      refine pi_S (j := 119) (mj := 199) (by decide +kernel) (by decide +kernel) rfl ?_
      show pmE pg X pg_tyl pg_cl (d + 2) 199 0 [.int (f 6), .int x1, .int x2] [] (md wc f A) _
      refine pe_iload_n (j := 0) (by decide +kernel) rfl ?_
      refine pe_iload_n (j := 1) (by decide +kernel) rfl ?_
      have lw5 := zi_lo (f 6)
      have uw5 := zi_hi (f 6)
      have lw6 := zi_lo x1
      have uw6 := zi_hi x1
      refine pz_icmp_lt (off := 12) (t := 14) (by decide +kernel) (by decide) rfl rfl rfl (fun h4 => ?_) (fun h4 => ?_)
      · skip
        refine pe_iconstv (n := 0) (v := 0) (by decide +kernel) (by decide +kernel) ?_
        refine pe_iret (by decide +kernel) rfl rfl ⟨rfl, rfl, ?_⟩
        show pmE pg X pg_tyl pg_cl (d + 3) 210 32 [.ref 147, .int x1, .int x2, .int (f 6)] [.int 0] (md wc f A) _
        refine pz_if_ne (off := 12) (t := 44) (by decide +kernel) (by decide) rfl kz_0 (fun h7 => by omega) (fun h7 => ?_)
        refine pe_aload_n (j := 0) (by decide +kernel) rfl ?_
        refine pe_iconstv (n := 2) (v := 2) (by decide +kernel) (by decide +kernel) ?_
        refine pe_aload_n (j := 0) (by decide +kernel) rfl ?_
        refine pe_get (j := 90) (ci := 12) (n := 4) (by decide +kernel) (by decide +kernel) (md_o hc) rfl ?_
        refine pi_V (j := 123) (mj := 211) (by decide +kernel) (cll_V (args := [.int (f 4), .int 2]) (n := 2) (by decide +kernel) rfl rfl (md_o hc) (by decide +kernel) (Nat.le_of_ble_eq_true rfl) (Nat.le_of_ble_eq_true rfl)) ?_
        show pmE pg X pg_tyl pg_cl (d + 2) 211 0 [.ref 147, .int 2, .int (f 4)] [] (md wc f A) _
        refine pe_aload_n (j := 0) (by decide +kernel) rfl ?_
        refine pe_get (j := 112) (ci := 12) (n := 8) (by decide +kernel) (by decide +kernel) (md_o hc) rfl ?_
        refine pz_if_ne (off := 42) (t := 46) (by decide +kernel) (by decide) rfl rfl (fun h8 => by omega) (fun h8 => ?_)
        refine pe_aload_n (j := 0) (by decide +kernel) rfl ?_
        refine pe_get (j := 7) (ci := 12) (n := 0) (by decide +kernel) (by decide +kernel) (md_o hc) rfl ?_
        refine pe_iconstv (n := 3) (v := 3) (by decide +kernel) (by decide +kernel) ?_
        refine mz_ld148 (by decide +kernel) hc hI kz_3 (by omega) (by omega) (fun v9 ev9 pv9 => ?_)
        clear pv9
        have lw11 := zi_lo v9
        have uw11 := zi_hi v9
        refine pz_if_eq (off := 34) (t := 47) (by decide +kernel) (by decide) rfl rfl (fun h10 => ?_) (fun h10 => ?_)
        · skip
          refine pe_aload_n (j := 0) (by decide +kernel) rfl ?_
          refine pe_get (j := 7) (ci := 12) (n := 0) (by decide +kernel) (by decide +kernel) (md_o hc) rfl ?_
          refine pe_iconstv (n := 3) (v := 3) (by decide +kernel) (by decide +kernel) ?_
          refine pe_iload_n (j := 1) (by decide +kernel) rfl ?_
          refine mz_st148 (by decide +kernel) hc hI kz_3 (by omega) (by omega) (by rw [kz_2]; simp only [MT]; omega) (fun A12 eA12 hIA12 => ?_)
          refine pe_aload_n (j := 0) (by decide +kernel) rfl ?_
          refine pe_get (j := 7) (ci := 12) (n := 0) (by decide +kernel) (by decide +kernel) (md_o hc) rfl ?_
          refine pe_iconstv (n := 4) (v := 4) (by decide +kernel) (by decide +kernel) ?_
          refine pe_iload_n (j := 2) (by decide +kernel) rfl ?_
          refine mz_st148 (by decide +kernel) hc hIA12 kz_4 (by omega) (by omega) (by simp only [MT]; omega) (fun A13 eA13 hIA13 => ?_)
          refine pe_vret (by decide +kernel) rfl ⟨rfl, rfl, ?_⟩
          show pmE pg X pg_tyl pg_cl (d + 3) 210 44 [.ref 147, .int x1, .int x2, .int (f 6)] [] (md wc f A13) _
          refine pe_aload_n (j := 0) (by decide +kernel) rfl ?_
          refine pz_callV (j := 127) (mj := 201) (by decide +kernel) (cll_V (args := []) (n := 0) (by decide +kernel) rfl rfl (md_o hc) (by decide +kernel) (Nat.le_of_ble_eq_true rfl) (Nat.le_of_ble_eq_true rfl)) (MM_201 hc hIA13) (fun q14a q14b q14c q14d hqq14 => ?_)
          obtain ⟨f15, eq14, hIq14, hGq14, kq14⟩ := hqq14
          cases eq14
          refine ⟨rfl, rfl, ?_⟩
          show pmE pg X pg_tyl pg_cl (d + 3) 210 48 [.ref 147, .int x1, .int x2, .int (f 6)] [] (md wc f15 A13) _
          refine pe_iload_n (j := 3) (by decide +kernel) rfl ?_
          refine pe_iload_n (j := 1) (by decide +kernel) rfl ?_
          refine pe_iload_n (j := 2) (by decide +kernel) rfl ?_
          refine pi_S (j := 119) (mj := 199) (by decide +kernel) (by decide +kernel) rfl ?_
          show pmE pg X pg_tyl pg_cl (d + 2) 199 0 [.int (f 6), .int x1, .int x2] [] (md wc f15 A13) _
          refine pe_iload_n (j := 0) (by decide +kernel) rfl ?_
          refine pe_iload_n (j := 1) (by decide +kernel) rfl ?_
          refine pz_icmp_lt (off := 12) (t := 14) (by decide +kernel) (by decide) rfl rfl rfl (fun h16 => ?_) (fun h16 => ?_)
          · skip
            refine pe_iconstv (n := 0) (v := 0) (by decide +kernel) (by decide +kernel) ?_
            refine pe_iret (by decide +kernel) rfl rfl ⟨rfl, rfl, ?_⟩
            show pmE pg X pg_tyl pg_cl (d + 3) 210 54 [.ref 147, .int x1, .int x2, .int (f 6)] [.int 0] (md wc f15 A13) _
            refine pz_if_eq (off := 7) (t := 61) (by decide +kernel) (by decide) rfl kz_0 (fun h17 => ?_) (fun h17 => by omega)
            refine pe_iload_n (j := 1) (by decide +kernel) rfl ?_
            exact pe_iret (by decide +kernel) rfl rfl ⟨f15, A13, x1, rfl, hIq14, (fun k n3 n4 n5 n6 n7 n8 => (hGq14 k n3 n4 n5 n6 n7)), (fun k n148 => (upa_fr eA13 n148).trans (upa_fr eA12 n148)), ⟨trivial, trivial⟩⟩
          · skip
            refine pe_iload_n (j := 0) (by decide +kernel) rfl ?_
            refine pe_iload_n (j := 2) (by decide +kernel) rfl ?_
            have lw19 := zi_lo x2
            have uw19 := zi_hi x2
            refine pz_icmp_gt (off := 7) (t := 14) (by decide +kernel) (by decide) rfl rfl rfl (fun h18 => ?_) (fun h18 => ?_)
            · skip
              refine pe_iconstv (n := 0) (v := 0) (by decide +kernel) (by decide +kernel) ?_
              refine pe_iret (by decide +kernel) rfl rfl ⟨rfl, rfl, ?_⟩
              show pmE pg X pg_tyl pg_cl (d + 3) 210 54 [.ref 147, .int x1, .int x2, .int (f 6)] [.int 0] (md wc f15 A13) _
              refine pz_if_eq (off := 7) (t := 61) (by decide +kernel) (by decide) rfl kz_0 (fun h20 => ?_) (fun h20 => by omega)
              refine pe_iload_n (j := 1) (by decide +kernel) rfl ?_
              exact pe_iret (by decide +kernel) rfl rfl ⟨f15, A13, x1, rfl, hIq14, (fun k n3 n4 n5 n6 n7 n8 => (hGq14 k n3 n4 n5 n6 n7)), (fun k n148 => (upa_fr eA13 n148).trans (upa_fr eA12 n148)), ⟨trivial, trivial⟩⟩
            · skip
              refine pe_iconstv (n := 1) (v := 1) (by decide +kernel) (by decide +kernel) ?_
              refine pe_goto (off := 4) (t := 15) (by decide +kernel) (by decide) rfl ?_
              refine pe_iret (by decide +kernel) rfl rfl ⟨rfl, rfl, ?_⟩
              show pmE pg X pg_tyl pg_cl (d + 3) 210 54 [.ref 147, .int x1, .int x2, .int (f 6)] [.int 1] (md wc f15 A13) _
              refine pz_if_eq (off := 7) (t := 61) (by decide +kernel) (by decide) rfl kz_1 (fun h21 => by omega) (fun h21 => ?_)
              refine pe_iload_n (j := 3) (by decide +kernel) rfl ?_
              refine pe_goto (off := 4) (t := 62) (by decide +kernel) (by decide) rfl ?_
              exact pe_iret (by decide +kernel) rfl rfl ⟨f15, A13, (f 6), rfl, hIq14, (fun k n3 n4 n5 n6 n7 n8 => (hGq14 k n3 n4 n5 n6 n7)), (fun k n148 => (upa_fr eA13 n148).trans (upa_fr eA12 n148)), ⟨trivial, trivial⟩⟩
        · skip
          refine pe_aload_n (j := 0) (by decide +kernel) rfl ?_
          refine pe_get (j := 7) (ci := 12) (n := 0) (by decide +kernel) (by decide +kernel) (md_o hc) rfl ?_
          refine pe_iconstv (n := 4) (v := 4) (by decide +kernel) (by decide +kernel) ?_
          refine mz_ld148 (by decide +kernel) hc hI kz_4 (by omega) (by omega) (fun v22 ev22 pv22 => ?_)
          clear pv22
          refine pe_iload_n (j := 2) (by decide +kernel) rfl ?_
          have lw24 := zi_lo v22
          have uw24 := zi_hi v22
          have lw25 := zi_lo (f 4)
          have uw25 := zi_hi (f 4)
          refine pz_icmp_lt (off := 23) (t := 46) (by decide +kernel) (by decide) rfl rfl rfl (fun h23 => ?_) (fun h23 => ?_)
          · skip
            refine pe_vret (by decide +kernel) rfl ⟨rfl, rfl, ?_⟩
            show pmE pg X pg_tyl pg_cl (d + 3) 210 44 [.ref 147, .int x1, .int x2, .int (f 6)] [] (md wc f A) _
            refine pe_aload_n (j := 0) (by decide +kernel) rfl ?_
            refine pz_callV (j := 127) (mj := 201) (by decide +kernel) (cll_V (args := []) (n := 0) (by decide +kernel) rfl rfl (md_o hc) (by decide +kernel) (Nat.le_of_ble_eq_true rfl) (Nat.le_of_ble_eq_true rfl)) (MM_201 hc hI) (fun q26a q26b q26c q26d hqq26 => ?_)
            obtain ⟨f27, eq26, hIq26, hGq26, kq26⟩ := hqq26
            cases eq26
            refine ⟨rfl, rfl, ?_⟩
            show pmE pg X pg_tyl pg_cl (d + 3) 210 48 [.ref 147, .int x1, .int x2, .int (f 6)] [] (md wc f27 A) _
            refine pe_iload_n (j := 3) (by decide +kernel) rfl ?_
            refine pe_iload_n (j := 1) (by decide +kernel) rfl ?_
            refine pe_iload_n (j := 2) (by decide +kernel) rfl ?_
            refine pi_S (j := 119) (mj := 199) (by decide +kernel) (by decide +kernel) rfl ?_
            show pmE pg X pg_tyl pg_cl (d + 2) 199 0 [.int (f 6), .int x1, .int x2] [] (md wc f27 A) _
            refine pe_iload_n (j := 0) (by decide +kernel) rfl ?_
            refine pe_iload_n (j := 1) (by decide +kernel) rfl ?_
            refine pz_icmp_lt (off := 12) (t := 14) (by decide +kernel) (by decide) rfl rfl rfl (fun h28 => ?_) (fun h28 => ?_)
            · skip
              refine pe_iconstv (n := 0) (v := 0) (by decide +kernel) (by decide +kernel) ?_
              refine pe_iret (by decide +kernel) rfl rfl ⟨rfl, rfl, ?_⟩
              show pmE pg X pg_tyl pg_cl (d + 3) 210 54 [.ref 147, .int x1, .int x2, .int (f 6)] [.int 0] (md wc f27 A) _
              refine pz_if_eq (off := 7) (t := 61) (by decide +kernel) (by decide) rfl kz_0 (fun h29 => ?_) (fun h29 => by omega)
              refine pe_iload_n (j := 1) (by decide +kernel) rfl ?_
              exact pe_iret (by decide +kernel) rfl rfl ⟨f27, A, x1, rfl, hIq26, (fun k n3 n4 n5 n6 n7 n8 => (hGq26 k n3 n4 n5 n6 n7)), (fun k n148 => rfl), ⟨trivial, trivial⟩⟩
            · skip
              refine pe_iload_n (j := 0) (by decide +kernel) rfl ?_
              refine pe_iload_n (j := 2) (by decide +kernel) rfl ?_
              have lw31 := zi_lo x2
              have uw31 := zi_hi x2
              refine pz_icmp_gt (off := 7) (t := 14) (by decide +kernel) (by decide) rfl rfl rfl (fun h30 => ?_) (fun h30 => ?_)
              · skip
                refine pe_iconstv (n := 0) (v := 0) (by decide +kernel) (by decide +kernel) ?_
                refine pe_iret (by decide +kernel) rfl rfl ⟨rfl, rfl, ?_⟩
                show pmE pg X pg_tyl pg_cl (d + 3) 210 54 [.ref 147, .int x1, .int x2, .int (f 6)] [.int 0] (md wc f27 A) _
                refine pz_if_eq (off := 7) (t := 61) (by decide +kernel) (by decide) rfl kz_0 (fun h32 => ?_) (fun h32 => by omega)
                refine pe_iload_n (j := 1) (by decide +kernel) rfl ?_
                exact pe_iret (by decide +kernel) rfl rfl ⟨f27, A, x1, rfl, hIq26, (fun k n3 n4 n5 n6 n7 n8 => (hGq26 k n3 n4 n5 n6 n7)), (fun k n148 => rfl), ⟨trivial, trivial⟩⟩
              · skip
                refine pe_iconstv (n := 1) (v := 1) (by decide +kernel) (by decide +kernel) ?_
                refine pe_goto (off := 4) (t := 15) (by decide +kernel) (by decide) rfl ?_
                refine pe_iret (by decide +kernel) rfl rfl ⟨rfl, rfl, ?_⟩
                show pmE pg X pg_tyl pg_cl (d + 3) 210 54 [.ref 147, .int x1, .int x2, .int (f 6)] [.int 1] (md wc f27 A) _
                refine pz_if_eq (off := 7) (t := 61) (by decide +kernel) (by decide) rfl kz_1 (fun h33 => by omega) (fun h33 => ?_)
                refine pe_iload_n (j := 3) (by decide +kernel) rfl ?_
                refine pe_goto (off := 4) (t := 62) (by decide +kernel) (by decide) rfl ?_
                exact pe_iret (by decide +kernel) rfl rfl ⟨f27, A, (f 6), rfl, hIq26, (fun k n3 n4 n5 n6 n7 n8 => (hGq26 k n3 n4 n5 n6 n7)), (fun k n148 => rfl), ⟨trivial, trivial⟩⟩
          · skip
            refine pe_aload_n (j := 0) (by decide +kernel) rfl ?_
            refine pe_get (j := 7) (ci := 12) (n := 0) (by decide +kernel) (by decide +kernel) (md_o hc) rfl ?_
            refine pe_iconstv (n := 4) (v := 4) (by decide +kernel) (by decide +kernel) ?_
            refine mz_ld148 (by decide +kernel) hc hI kz_4 (by omega) (by omega) (fun v34 ev34 pv34 => ?_)
            rw [ev34.trans ev22.symm]
            clear pv34 ev34 v34
            refine pe_iload_n (j := 2) (by decide +kernel) rfl ?_
            refine pz_icmp_ne (off := 14) (t := 47) (by decide +kernel) (by decide) rfl rfl rfl (fun h35 => ?_) (fun h35 => ?_)
            · skip
              refine pe_aload_n (j := 0) (by decide +kernel) rfl ?_
              refine pe_get (j := 7) (ci := 12) (n := 0) (by decide +kernel) (by decide +kernel) (md_o hc) rfl ?_
              refine pe_iconstv (n := 3) (v := 3) (by decide +kernel) (by decide +kernel) ?_
              refine pe_iload_n (j := 1) (by decide +kernel) rfl ?_
              refine mz_st148 (by decide +kernel) hc hI kz_3 (by omega) (by omega) (by rw [kz_2]; simp only [MT]; omega) (fun A36 eA36 hIA36 => ?_)
              refine pe_aload_n (j := 0) (by decide +kernel) rfl ?_
              refine pe_get (j := 7) (ci := 12) (n := 0) (by decide +kernel) (by decide +kernel) (md_o hc) rfl ?_
              refine pe_iconstv (n := 4) (v := 4) (by decide +kernel) (by decide +kernel) ?_
              refine pe_iload_n (j := 2) (by decide +kernel) rfl ?_
              refine mz_st148 (by decide +kernel) hc hIA36 kz_4 (by omega) (by omega) (by simp only [MT]; omega) (fun A37 eA37 hIA37 => ?_)
              refine pe_vret (by decide +kernel) rfl ⟨rfl, rfl, ?_⟩
              show pmE pg X pg_tyl pg_cl (d + 3) 210 44 [.ref 147, .int x1, .int x2, .int (f 6)] [] (md wc f A37) _
              refine pe_aload_n (j := 0) (by decide +kernel) rfl ?_
              refine pz_callV (j := 127) (mj := 201) (by decide +kernel) (cll_V (args := []) (n := 0) (by decide +kernel) rfl rfl (md_o hc) (by decide +kernel) (Nat.le_of_ble_eq_true rfl) (Nat.le_of_ble_eq_true rfl)) (MM_201 hc hIA37) (fun q38a q38b q38c q38d hqq38 => ?_)
              obtain ⟨f39, eq38, hIq38, hGq38, kq38⟩ := hqq38
              cases eq38
              refine ⟨rfl, rfl, ?_⟩
              show pmE pg X pg_tyl pg_cl (d + 3) 210 48 [.ref 147, .int x1, .int x2, .int (f 6)] [] (md wc f39 A37) _
              refine pe_iload_n (j := 3) (by decide +kernel) rfl ?_
              refine pe_iload_n (j := 1) (by decide +kernel) rfl ?_
              refine pe_iload_n (j := 2) (by decide +kernel) rfl ?_
              refine pi_S (j := 119) (mj := 199) (by decide +kernel) (by decide +kernel) rfl ?_
              show pmE pg X pg_tyl pg_cl (d + 2) 199 0 [.int (f 6), .int x1, .int x2] [] (md wc f39 A37) _
              refine pe_iload_n (j := 0) (by decide +kernel) rfl ?_
              refine pe_iload_n (j := 1) (by decide +kernel) rfl ?_
              refine pz_icmp_lt (off := 12) (t := 14) (by decide +kernel) (by decide) rfl rfl rfl (fun h40 => ?_) (fun h40 => ?_)
              · skip
                refine pe_iconstv (n := 0) (v := 0) (by decide +kernel) (by decide +kernel) ?_
                refine pe_iret (by decide +kernel) rfl rfl ⟨rfl, rfl, ?_⟩
                show pmE pg X pg_tyl pg_cl (d + 3) 210 54 [.ref 147, .int x1, .int x2, .int (f 6)] [.int 0] (md wc f39 A37) _
                refine pz_if_eq (off := 7) (t := 61) (by decide +kernel) (by decide) rfl kz_0 (fun h41 => ?_) (fun h41 => by omega)
                refine pe_iload_n (j := 1) (by decide +kernel) rfl ?_
                exact pe_iret (by decide +kernel) rfl rfl ⟨f39, A37, x1, rfl, hIq38, (fun k n3 n4 n5 n6 n7 n8 => (hGq38 k n3 n4 n5 n6 n7)), (fun k n148 => (upa_fr eA37 n148).trans (upa_fr eA36 n148)), ⟨trivial, trivial⟩⟩
              · skip
                refine pe_iload_n (j := 0) (by decide +kernel) rfl ?_
                refine pe_iload_n (j := 2) (by decide +kernel) rfl ?_
                have lw43 := zi_lo x2
                have uw43 := zi_hi x2
                refine pz_icmp_gt (off := 7) (t := 14) (by decide +kernel) (by decide) rfl rfl rfl (fun h42 => ?_) (fun h42 => ?_)
                · skip
                  refine pe_iconstv (n := 0) (v := 0) (by decide +kernel) (by decide +kernel) ?_
                  refine pe_iret (by decide +kernel) rfl rfl ⟨rfl, rfl, ?_⟩
                  show pmE pg X pg_tyl pg_cl (d + 3) 210 54 [.ref 147, .int x1, .int x2, .int (f 6)] [.int 0] (md wc f39 A37) _
                  refine pz_if_eq (off := 7) (t := 61) (by decide +kernel) (by decide) rfl kz_0 (fun h44 => ?_) (fun h44 => by omega)
                  refine pe_iload_n (j := 1) (by decide +kernel) rfl ?_
                  exact pe_iret (by decide +kernel) rfl rfl ⟨f39, A37, x1, rfl, hIq38, (fun k n3 n4 n5 n6 n7 n8 => (hGq38 k n3 n4 n5 n6 n7)), (fun k n148 => (upa_fr eA37 n148).trans (upa_fr eA36 n148)), ⟨trivial, trivial⟩⟩
                · skip
                  refine pe_iconstv (n := 1) (v := 1) (by decide +kernel) (by decide +kernel) ?_
                  refine pe_goto (off := 4) (t := 15) (by decide +kernel) (by decide) rfl ?_
                  refine pe_iret (by decide +kernel) rfl rfl ⟨rfl, rfl, ?_⟩
                  show pmE pg X pg_tyl pg_cl (d + 3) 210 54 [.ref 147, .int x1, .int x2, .int (f 6)] [.int 1] (md wc f39 A37) _
                  refine pz_if_eq (off := 7) (t := 61) (by decide +kernel) (by decide) rfl kz_1 (fun h45 => by omega) (fun h45 => ?_)
                  refine pe_iload_n (j := 3) (by decide +kernel) rfl ?_
                  refine pe_goto (off := 4) (t := 62) (by decide +kernel) (by decide) rfl ?_
                  exact pe_iret (by decide +kernel) rfl rfl ⟨f39, A37, (f 6), rfl, hIq38, (fun k n3 n4 n5 n6 n7 n8 => (hGq38 k n3 n4 n5 n6 n7)), (fun k n148 => (upa_fr eA37 n148).trans (upa_fr eA36 n148)), ⟨trivial, trivial⟩⟩
            · skip
              refine pe_aload_n (j := 0) (by decide +kernel) rfl ?_
              refine pe_get (j := 7) (ci := 12) (n := 0) (by decide +kernel) (by decide +kernel) (md_o hc) rfl ?_
              refine pe_iconstv (n := 3) (v := 3) (by decide +kernel) (by decide +kernel) ?_
              refine mz_ld148 (by decide +kernel) hc hI kz_3 (by omega) (by omega) (fun v46 ev46 pv46 => ?_)
              rw [ev46.trans ev9.symm]
              clear pv46 ev46 v46
              refine pe_iload_n (j := 1) (by decide +kernel) rfl ?_
              refine pz_icmp_gt (off := 4) (t := 47) (by decide +kernel) (by decide) rfl rfl kz_2 (fun h47 => ?_) (fun h47 => ?_)
              · skip
                refine pe_aload_n (j := 0) (by decide +kernel) rfl ?_
                refine pe_get (j := 7) (ci := 12) (n := 0) (by decide +kernel) (by decide +kernel) (md_o hc) rfl ?_
                refine pe_iconstv (n := 3) (v := 3) (by decide +kernel) (by decide +kernel) ?_
                refine pe_iload_n (j := 1) (by decide +kernel) rfl ?_
                refine mz_st148 (by decide +kernel) hc hI kz_3 (by omega) (by omega) (by rw [kz_2]; simp only [MT]; omega) (fun A48 eA48 hIA48 => ?_)
                refine pe_aload_n (j := 0) (by decide +kernel) rfl ?_
                refine pe_get (j := 7) (ci := 12) (n := 0) (by decide +kernel) (by decide +kernel) (md_o hc) rfl ?_
                refine pe_iconstv (n := 4) (v := 4) (by decide +kernel) (by decide +kernel) ?_
                refine pe_iload_n (j := 2) (by decide +kernel) rfl ?_
                refine mz_st148 (by decide +kernel) hc hIA48 kz_4 (by omega) (by omega) (by simp only [MT]; omega) (fun A49 eA49 hIA49 => ?_)
                refine pe_vret (by decide +kernel) rfl ⟨rfl, rfl, ?_⟩
                show pmE pg X pg_tyl pg_cl (d + 3) 210 44 [.ref 147, .int x1, .int x2, .int (f 6)] [] (md wc f A49) _
                refine pe_aload_n (j := 0) (by decide +kernel) rfl ?_
                refine pz_callV (j := 127) (mj := 201) (by decide +kernel) (cll_V (args := []) (n := 0) (by decide +kernel) rfl rfl (md_o hc) (by decide +kernel) (Nat.le_of_ble_eq_true rfl) (Nat.le_of_ble_eq_true rfl)) (MM_201 hc hIA49) (fun q50a q50b q50c q50d hqq50 => ?_)
                obtain ⟨f51, eq50, hIq50, hGq50, kq50⟩ := hqq50
                cases eq50
                refine ⟨rfl, rfl, ?_⟩
                show pmE pg X pg_tyl pg_cl (d + 3) 210 48 [.ref 147, .int x1, .int x2, .int (f 6)] [] (md wc f51 A49) _
                refine pe_iload_n (j := 3) (by decide +kernel) rfl ?_
                refine pe_iload_n (j := 1) (by decide +kernel) rfl ?_
                refine pe_iload_n (j := 2) (by decide +kernel) rfl ?_
                refine pi_S (j := 119) (mj := 199) (by decide +kernel) (by decide +kernel) rfl ?_
                show pmE pg X pg_tyl pg_cl (d + 2) 199 0 [.int (f 6), .int x1, .int x2] [] (md wc f51 A49) _
                refine pe_iload_n (j := 0) (by decide +kernel) rfl ?_
                refine pe_iload_n (j := 1) (by decide +kernel) rfl ?_
                refine pz_icmp_lt (off := 12) (t := 14) (by decide +kernel) (by decide) rfl rfl rfl (fun h52 => ?_) (fun h52 => ?_)
                · skip
                  refine pe_iconstv (n := 0) (v := 0) (by decide +kernel) (by decide +kernel) ?_
                  refine pe_iret (by decide +kernel) rfl rfl ⟨rfl, rfl, ?_⟩
                  show pmE pg X pg_tyl pg_cl (d + 3) 210 54 [.ref 147, .int x1, .int x2, .int (f 6)] [.int 0] (md wc f51 A49) _
                  refine pz_if_eq (off := 7) (t := 61) (by decide +kernel) (by decide) rfl kz_0 (fun h53 => ?_) (fun h53 => by omega)
                  refine pe_iload_n (j := 1) (by decide +kernel) rfl ?_
                  exact pe_iret (by decide +kernel) rfl rfl ⟨f51, A49, x1, rfl, hIq50, (fun k n3 n4 n5 n6 n7 n8 => (hGq50 k n3 n4 n5 n6 n7)), (fun k n148 => (upa_fr eA49 n148).trans (upa_fr eA48 n148)), ⟨trivial, trivial⟩⟩
                · skip
                  refine pe_iload_n (j := 0) (by decide +kernel) rfl ?_
                  refine pe_iload_n (j := 2) (by decide +kernel) rfl ?_
                  have lw55 := zi_lo x2
                  have uw55 := zi_hi x2
                  refine pz_icmp_gt (off := 7) (t := 14) (by decide +kernel) (by decide) rfl rfl rfl (fun h54 => ?_) (fun h54 => ?_)
                  · skip
                    refine pe_iconstv (n := 0) (v := 0) (by decide +kernel) (by decide +kernel) ?_
                    refine pe_iret (by decide +kernel) rfl rfl ⟨rfl, rfl, ?_⟩
                    show pmE pg X pg_tyl pg_cl (d + 3) 210 54 [.ref 147, .int x1, .int x2, .int (f 6)] [.int 0] (md wc f51 A49) _
                    refine pz_if_eq (off := 7) (t := 61) (by decide +kernel) (by decide) rfl kz_0 (fun h56 => ?_) (fun h56 => by omega)
                    refine pe_iload_n (j := 1) (by decide +kernel) rfl ?_
                    exact pe_iret (by decide +kernel) rfl rfl ⟨f51, A49, x1, rfl, hIq50, (fun k n3 n4 n5 n6 n7 n8 => (hGq50 k n3 n4 n5 n6 n7)), (fun k n148 => (upa_fr eA49 n148).trans (upa_fr eA48 n148)), ⟨trivial, trivial⟩⟩
                  · skip
                    refine pe_iconstv (n := 1) (v := 1) (by decide +kernel) (by decide +kernel) ?_
                    refine pe_goto (off := 4) (t := 15) (by decide +kernel) (by decide) rfl ?_
                    refine pe_iret (by decide +kernel) rfl rfl ⟨rfl, rfl, ?_⟩
                    show pmE pg X pg_tyl pg_cl (d + 3) 210 54 [.ref 147, .int x1, .int x2, .int (f 6)] [.int 1] (md wc f51 A49) _
                    refine pz_if_eq (off := 7) (t := 61) (by decide +kernel) (by decide) rfl kz_1 (fun h57 => by omega) (fun h57 => ?_)
                    refine pe_iload_n (j := 3) (by decide +kernel) rfl ?_
                    refine pe_goto (off := 4) (t := 62) (by decide +kernel) (by decide) rfl ?_
                    exact pe_iret (by decide +kernel) rfl rfl ⟨f51, A49, (f 6), rfl, hIq50, (fun k n3 n4 n5 n6 n7 n8 => (hGq50 k n3 n4 n5 n6 n7)), (fun k n148 => (upa_fr eA49 n148).trans (upa_fr eA48 n148)), ⟨trivial, trivial⟩⟩
              · skip
                refine pe_vret (by decide +kernel) rfl ⟨rfl, rfl, ?_⟩
                show pmE pg X pg_tyl pg_cl (d + 3) 210 44 [.ref 147, .int x1, .int x2, .int (f 6)] [] (md wc f A) _
                refine pe_aload_n (j := 0) (by decide +kernel) rfl ?_
                refine pz_callV (j := 127) (mj := 201) (by decide +kernel) (cll_V (args := []) (n := 0) (by decide +kernel) rfl rfl (md_o hc) (by decide +kernel) (Nat.le_of_ble_eq_true rfl) (Nat.le_of_ble_eq_true rfl)) (MM_201 hc hI) (fun q58a q58b q58c q58d hqq58 => ?_)
                obtain ⟨f59, eq58, hIq58, hGq58, kq58⟩ := hqq58
                cases eq58
                refine ⟨rfl, rfl, ?_⟩
                show pmE pg X pg_tyl pg_cl (d + 3) 210 48 [.ref 147, .int x1, .int x2, .int (f 6)] [] (md wc f59 A) _
                refine pe_iload_n (j := 3) (by decide +kernel) rfl ?_
                refine pe_iload_n (j := 1) (by decide +kernel) rfl ?_
                refine pe_iload_n (j := 2) (by decide +kernel) rfl ?_
                refine pi_S (j := 119) (mj := 199) (by decide +kernel) (by decide +kernel) rfl ?_
                show pmE pg X pg_tyl pg_cl (d + 2) 199 0 [.int (f 6), .int x1, .int x2] [] (md wc f59 A) _
                refine pe_iload_n (j := 0) (by decide +kernel) rfl ?_
                refine pe_iload_n (j := 1) (by decide +kernel) rfl ?_
                refine pz_icmp_lt (off := 12) (t := 14) (by decide +kernel) (by decide) rfl rfl rfl (fun h60 => ?_) (fun h60 => ?_)
                · skip
                  refine pe_iconstv (n := 0) (v := 0) (by decide +kernel) (by decide +kernel) ?_
                  refine pe_iret (by decide +kernel) rfl rfl ⟨rfl, rfl, ?_⟩
                  show pmE pg X pg_tyl pg_cl (d + 3) 210 54 [.ref 147, .int x1, .int x2, .int (f 6)] [.int 0] (md wc f59 A) _
                  refine pz_if_eq (off := 7) (t := 61) (by decide +kernel) (by decide) rfl kz_0 (fun h61 => ?_) (fun h61 => by omega)
                  refine pe_iload_n (j := 1) (by decide +kernel) rfl ?_
                  exact pe_iret (by decide +kernel) rfl rfl ⟨f59, A, x1, rfl, hIq58, (fun k n3 n4 n5 n6 n7 n8 => (hGq58 k n3 n4 n5 n6 n7)), (fun k n148 => rfl), ⟨trivial, trivial⟩⟩
                · skip
                  refine pe_iload_n (j := 0) (by decide +kernel) rfl ?_
                  refine pe_iload_n (j := 2) (by decide +kernel) rfl ?_
                  have lw63 := zi_lo x2
                  have uw63 := zi_hi x2
                  refine pz_icmp_gt (off := 7) (t := 14) (by decide +kernel) (by decide) rfl rfl rfl (fun h62 => ?_) (fun h62 => ?_)
                  · skip
                    refine pe_iconstv (n := 0) (v := 0) (by decide +kernel) (by decide +kernel) ?_
                    refine pe_iret (by decide +kernel) rfl rfl ⟨rfl, rfl, ?_⟩
                    show pmE pg X pg_tyl pg_cl (d + 3) 210 54 [.ref 147, .int x1, .int x2, .int (f 6)] [.int 0] (md wc f59 A) _
                    refine pz_if_eq (off := 7) (t := 61) (by decide +kernel) (by decide) rfl kz_0 (fun h64 => ?_) (fun h64 => by omega)
                    refine pe_iload_n (j := 1) (by decide +kernel) rfl ?_
                    exact pe_iret (by decide +kernel) rfl rfl ⟨f59, A, x1, rfl, hIq58, (fun k n3 n4 n5 n6 n7 n8 => (hGq58 k n3 n4 n5 n6 n7)), (fun k n148 => rfl), ⟨trivial, trivial⟩⟩
                  · skip
                    refine pe_iconstv (n := 1) (v := 1) (by decide +kernel) (by decide +kernel) ?_
                    refine pe_goto (off := 4) (t := 15) (by decide +kernel) (by decide) rfl ?_
                    refine pe_iret (by decide +kernel) rfl rfl ⟨rfl, rfl, ?_⟩
                    show pmE pg X pg_tyl pg_cl (d + 3) 210 54 [.ref 147, .int x1, .int x2, .int (f 6)] [.int 1] (md wc f59 A) _
                    refine pz_if_eq (off := 7) (t := 61) (by decide +kernel) (by decide) rfl kz_1 (fun h65 => by omega) (fun h65 => ?_)
                    refine pe_iload_n (j := 3) (by decide +kernel) rfl ?_
                    refine pe_goto (off := 4) (t := 62) (by decide +kernel) (by decide) rfl ?_
                    exact pe_iret (by decide +kernel) rfl rfl ⟨f59, A, (f 6), rfl, hIq58, (fun k n3 n4 n5 n6 n7 n8 => (hGq58 k n3 n4 n5 n6 n7)), (fun k n148 => rfl), ⟨trivial, trivial⟩⟩
      · skip
        refine pe_iload_n (j := 0) (by decide +kernel) rfl ?_
        refine pe_iload_n (j := 2) (by decide +kernel) rfl ?_
        have lw67 := zi_lo x2
        have uw67 := zi_hi x2
        refine pz_icmp_gt (off := 7) (t := 14) (by decide +kernel) (by decide) rfl rfl rfl (fun h66 => ?_) (fun h66 => ?_)
        · skip
          refine pe_iconstv (n := 0) (v := 0) (by decide +kernel) (by decide +kernel) ?_
          refine pe_iret (by decide +kernel) rfl rfl ⟨rfl, rfl, ?_⟩
          show pmE pg X pg_tyl pg_cl (d + 3) 210 32 [.ref 147, .int x1, .int x2, .int (f 6)] [.int 0] (md wc f A) _
          refine pz_if_ne (off := 12) (t := 44) (by decide +kernel) (by decide) rfl kz_0 (fun h68 => by omega) (fun h68 => ?_)
          refine pe_aload_n (j := 0) (by decide +kernel) rfl ?_
          refine pe_iconstv (n := 2) (v := 2) (by decide +kernel) (by decide +kernel) ?_
          refine pe_aload_n (j := 0) (by decide +kernel) rfl ?_
          refine pe_get (j := 90) (ci := 12) (n := 4) (by decide +kernel) (by decide +kernel) (md_o hc) rfl ?_
          refine pi_V (j := 123) (mj := 211) (by decide +kernel) (cll_V (args := [.int (f 4), .int 2]) (n := 2) (by decide +kernel) rfl rfl (md_o hc) (by decide +kernel) (Nat.le_of_ble_eq_true rfl) (Nat.le_of_ble_eq_true rfl)) ?_
          show pmE pg X pg_tyl pg_cl (d + 2) 211 0 [.ref 147, .int 2, .int (f 4)] [] (md wc f A) _
          refine pe_aload_n (j := 0) (by decide +kernel) rfl ?_
          refine pe_get (j := 112) (ci := 12) (n := 8) (by decide +kernel) (by decide +kernel) (md_o hc) rfl ?_
          refine pz_if_ne (off := 42) (t := 46) (by decide +kernel) (by decide) rfl rfl (fun h69 => by omega) (fun h69 => ?_)
          refine pe_aload_n (j := 0) (by decide +kernel) rfl ?_
          refine pe_get (j := 7) (ci := 12) (n := 0) (by decide +kernel) (by decide +kernel) (md_o hc) rfl ?_
          refine pe_iconstv (n := 3) (v := 3) (by decide +kernel) (by decide +kernel) ?_
          refine mz_ld148 (by decide +kernel) hc hI kz_3 (by omega) (by omega) (fun v70 ev70 pv70 => ?_)
          clear pv70
          have lw72 := zi_lo v70
          have uw72 := zi_hi v70
          refine pz_if_eq (off := 34) (t := 47) (by decide +kernel) (by decide) rfl rfl (fun h71 => ?_) (fun h71 => ?_)
          · skip
            refine pe_aload_n (j := 0) (by decide +kernel) rfl ?_
            refine pe_get (j := 7) (ci := 12) (n := 0) (by decide +kernel) (by decide +kernel) (md_o hc) rfl ?_
            refine pe_iconstv (n := 3) (v := 3) (by decide +kernel) (by decide +kernel) ?_
            refine pe_iload_n (j := 1) (by decide +kernel) rfl ?_
            refine mz_st148 (by decide +kernel) hc hI kz_3 (by omega) (by omega) (by rw [kz_2]; simp only [MT]; omega) (fun A73 eA73 hIA73 => ?_)
            refine pe_aload_n (j := 0) (by decide +kernel) rfl ?_
            refine pe_get (j := 7) (ci := 12) (n := 0) (by decide +kernel) (by decide +kernel) (md_o hc) rfl ?_
            refine pe_iconstv (n := 4) (v := 4) (by decide +kernel) (by decide +kernel) ?_
            refine pe_iload_n (j := 2) (by decide +kernel) rfl ?_
            refine mz_st148 (by decide +kernel) hc hIA73 kz_4 (by omega) (by omega) (by simp only [MT]; omega) (fun A74 eA74 hIA74 => ?_)
            refine pe_vret (by decide +kernel) rfl ⟨rfl, rfl, ?_⟩
            show pmE pg X pg_tyl pg_cl (d + 3) 210 44 [.ref 147, .int x1, .int x2, .int (f 6)] [] (md wc f A74) _
            refine pe_aload_n (j := 0) (by decide +kernel) rfl ?_
            refine pz_callV (j := 127) (mj := 201) (by decide +kernel) (cll_V (args := []) (n := 0) (by decide +kernel) rfl rfl (md_o hc) (by decide +kernel) (Nat.le_of_ble_eq_true rfl) (Nat.le_of_ble_eq_true rfl)) (MM_201 hc hIA74) (fun q75a q75b q75c q75d hqq75 => ?_)
            obtain ⟨f76, eq75, hIq75, hGq75, kq75⟩ := hqq75
            cases eq75
            refine ⟨rfl, rfl, ?_⟩
            show pmE pg X pg_tyl pg_cl (d + 3) 210 48 [.ref 147, .int x1, .int x2, .int (f 6)] [] (md wc f76 A74) _
            refine pe_iload_n (j := 3) (by decide +kernel) rfl ?_
            refine pe_iload_n (j := 1) (by decide +kernel) rfl ?_
            refine pe_iload_n (j := 2) (by decide +kernel) rfl ?_
            refine pi_S (j := 119) (mj := 199) (by decide +kernel) (by decide +kernel) rfl ?_
            show pmE pg X pg_tyl pg_cl (d + 2) 199 0 [.int (f 6), .int x1, .int x2] [] (md wc f76 A74) _
            refine pe_iload_n (j := 0) (by decide +kernel) rfl ?_
            refine pe_iload_n (j := 1) (by decide +kernel) rfl ?_
            refine pz_icmp_lt (off := 12) (t := 14) (by decide +kernel) (by decide) rfl rfl rfl (fun h77 => ?_) (fun h77 => ?_)
            · skip
              refine pe_iconstv (n := 0) (v := 0) (by decide +kernel) (by decide +kernel) ?_
              refine pe_iret (by decide +kernel) rfl rfl ⟨rfl, rfl, ?_⟩
              show pmE pg X pg_tyl pg_cl (d + 3) 210 54 [.ref 147, .int x1, .int x2, .int (f 6)] [.int 0] (md wc f76 A74) _
              refine pz_if_eq (off := 7) (t := 61) (by decide +kernel) (by decide) rfl kz_0 (fun h78 => ?_) (fun h78 => by omega)
              refine pe_iload_n (j := 1) (by decide +kernel) rfl ?_
              exact pe_iret (by decide +kernel) rfl rfl ⟨f76, A74, x1, rfl, hIq75, (fun k n3 n4 n5 n6 n7 n8 => (hGq75 k n3 n4 n5 n6 n7)), (fun k n148 => (upa_fr eA74 n148).trans (upa_fr eA73 n148)), ⟨trivial, trivial⟩⟩
            · skip
              refine pe_iload_n (j := 0) (by decide +kernel) rfl ?_
              refine pe_iload_n (j := 2) (by decide +kernel) rfl ?_
              refine pz_icmp_gt (off := 7) (t := 14) (by decide +kernel) (by decide) rfl rfl rfl (fun h79 => ?_) (fun h79 => ?_)
              · skip
                refine pe_iconstv (n := 0) (v := 0) (by decide +kernel) (by decide +kernel) ?_
                refine pe_iret (by decide +kernel) rfl rfl ⟨rfl, rfl, ?_⟩
                show pmE pg X pg_tyl pg_cl (d + 3) 210 54 [.ref 147, .int x1, .int x2, .int (f 6)] [.int 0] (md wc f76 A74) _
                refine pz_if_eq (off := 7) (t := 61) (by decide +kernel) (by decide) rfl kz_0 (fun h80 => ?_) (fun h80 => by omega)
                refine pe_iload_n (j := 1) (by decide +kernel) rfl ?_
                exact pe_iret (by decide +kernel) rfl rfl ⟨f76, A74, x1, rfl, hIq75, (fun k n3 n4 n5 n6 n7 n8 => (hGq75 k n3 n4 n5 n6 n7)), (fun k n148 => (upa_fr eA74 n148).trans (upa_fr eA73 n148)), ⟨trivial, trivial⟩⟩
              · skip
                refine pe_iconstv (n := 1) (v := 1) (by decide +kernel) (by decide +kernel) ?_
                refine pe_goto (off := 4) (t := 15) (by decide +kernel) (by decide) rfl ?_
                refine pe_iret (by decide +kernel) rfl rfl ⟨rfl, rfl, ?_⟩
                show pmE pg X pg_tyl pg_cl (d + 3) 210 54 [.ref 147, .int x1, .int x2, .int (f 6)] [.int 1] (md wc f76 A74) _
                refine pz_if_eq (off := 7) (t := 61) (by decide +kernel) (by decide) rfl kz_1 (fun h81 => by omega) (fun h81 => ?_)
                refine pe_iload_n (j := 3) (by decide +kernel) rfl ?_
                refine pe_goto (off := 4) (t := 62) (by decide +kernel) (by decide) rfl ?_
                exact pe_iret (by decide +kernel) rfl rfl ⟨f76, A74, (f 6), rfl, hIq75, (fun k n3 n4 n5 n6 n7 n8 => (hGq75 k n3 n4 n5 n6 n7)), (fun k n148 => (upa_fr eA74 n148).trans (upa_fr eA73 n148)), ⟨trivial, trivial⟩⟩
          · skip
            refine pe_aload_n (j := 0) (by decide +kernel) rfl ?_
            refine pe_get (j := 7) (ci := 12) (n := 0) (by decide +kernel) (by decide +kernel) (md_o hc) rfl ?_
            refine pe_iconstv (n := 4) (v := 4) (by decide +kernel) (by decide +kernel) ?_
            refine mz_ld148 (by decide +kernel) hc hI kz_4 (by omega) (by omega) (fun v82 ev82 pv82 => ?_)
            clear pv82
            refine pe_iload_n (j := 2) (by decide +kernel) rfl ?_
            have lw84 := zi_lo v82
            have uw84 := zi_hi v82
            have lw85 := zi_lo (f 4)
            have uw85 := zi_hi (f 4)
            refine pz_icmp_lt (off := 23) (t := 46) (by decide +kernel) (by decide) rfl rfl rfl (fun h83 => ?_) (fun h83 => ?_)
            · skip
              refine pe_vret (by decide +kernel) rfl ⟨rfl, rfl, ?_⟩
              show pmE pg X pg_tyl pg_cl (d + 3) 210 44 [.ref 147, .int x1, .int x2, .int (f 6)] [] (md wc f A) _
              refine pe_aload_n (j := 0) (by decide +kernel) rfl ?_
              refine pz_callV (j := 127) (mj := 201) (by decide +kernel) (cll_V (args := []) (n := 0) (by decide +kernel) rfl rfl (md_o hc) (by decide +kernel) (Nat.le_of_ble_eq_true rfl) (Nat.le_of_ble_eq_true rfl)) (MM_201 hc hI) (fun q86a q86b q86c q86d hqq86 => ?_)
              obtain ⟨f87, eq86, hIq86, hGq86, kq86⟩ := hqq86
              cases eq86
              refine ⟨rfl, rfl, ?_⟩
              show pmE pg X pg_tyl pg_cl (d + 3) 210 48 [.ref 147, .int x1, .int x2, .int (f 6)] [] (md wc f87 A) _
              refine pe_iload_n (j := 3) (by decide +kernel) rfl ?_
              refine pe_iload_n (j := 1) (by decide +kernel) rfl ?_
              refine pe_iload_n (j := 2) (by decide +kernel) rfl ?_
              refine pi_S (j := 119) (mj := 199) (by decide +kernel) (by decide +kernel) rfl ?_
              show pmE pg X pg_tyl pg_cl (d + 2) 199 0 [.int (f 6), .int x1, .int x2] [] (md wc f87 A) _
              refine pe_iload_n (j := 0) (by decide +kernel) rfl ?_
              refine pe_iload_n (j := 1) (by decide +kernel) rfl ?_
              refine pz_icmp_lt (off := 12) (t := 14) (by decide +kernel) (by decide) rfl rfl rfl (fun h88 => ?_) (fun h88 => ?_)
              · skip
                refine pe_iconstv (n := 0) (v := 0) (by decide +kernel) (by decide +kernel) ?_
                refine pe_iret (by decide +kernel) rfl rfl ⟨rfl, rfl, ?_⟩
                show pmE pg X pg_tyl pg_cl (d + 3) 210 54 [.ref 147, .int x1, .int x2, .int (f 6)] [.int 0] (md wc f87 A) _
                refine pz_if_eq (off := 7) (t := 61) (by decide +kernel) (by decide) rfl kz_0 (fun h89 => ?_) (fun h89 => by omega)
                refine pe_iload_n (j := 1) (by decide +kernel) rfl ?_
                exact pe_iret (by decide +kernel) rfl rfl ⟨f87, A, x1, rfl, hIq86, (fun k n3 n4 n5 n6 n7 n8 => (hGq86 k n3 n4 n5 n6 n7)), (fun k n148 => rfl), ⟨trivial, trivial⟩⟩
              · skip
                refine pe_iload_n (j := 0) (by decide +kernel) rfl ?_
                refine pe_iload_n (j := 2) (by decide +kernel) rfl ?_
                refine pz_icmp_gt (off := 7) (t := 14) (by decide +kernel) (by decide) rfl rfl rfl (fun h90 => ?_) (fun h90 => ?_)
                · skip
                  refine pe_iconstv (n := 0) (v := 0) (by decide +kernel) (by decide +kernel) ?_
                  refine pe_iret (by decide +kernel) rfl rfl ⟨rfl, rfl, ?_⟩
                  show pmE pg X pg_tyl pg_cl (d + 3) 210 54 [.ref 147, .int x1, .int x2, .int (f 6)] [.int 0] (md wc f87 A) _
                  refine pz_if_eq (off := 7) (t := 61) (by decide +kernel) (by decide) rfl kz_0 (fun h91 => ?_) (fun h91 => by omega)
                  refine pe_iload_n (j := 1) (by decide +kernel) rfl ?_
                  exact pe_iret (by decide +kernel) rfl rfl ⟨f87, A, x1, rfl, hIq86, (fun k n3 n4 n5 n6 n7 n8 => (hGq86 k n3 n4 n5 n6 n7)), (fun k n148 => rfl), ⟨trivial, trivial⟩⟩
                · skip
                  refine pe_iconstv (n := 1) (v := 1) (by decide +kernel) (by decide +kernel) ?_
                  refine pe_goto (off := 4) (t := 15) (by decide +kernel) (by decide) rfl ?_
                  refine pe_iret (by decide +kernel) rfl rfl ⟨rfl, rfl, ?_⟩
                  show pmE pg X pg_tyl pg_cl (d + 3) 210 54 [.ref 147, .int x1, .int x2, .int (f 6)] [.int 1] (md wc f87 A) _
                  refine pz_if_eq (off := 7) (t := 61) (by decide +kernel) (by decide) rfl kz_1 (fun h92 => by omega) (fun h92 => ?_)
                  refine pe_iload_n (j := 3) (by decide +kernel) rfl ?_
                  refine pe_goto (off := 4) (t := 62) (by decide +kernel) (by decide) rfl ?_
                  exact pe_iret (by decide +kernel) rfl rfl ⟨f87, A, (f 6), rfl, hIq86, (fun k n3 n4 n5 n6 n7 n8 => (hGq86 k n3 n4 n5 n6 n7)), (fun k n148 => rfl), ⟨trivial, trivial⟩⟩
            · skip
              refine pe_aload_n (j := 0) (by decide +kernel) rfl ?_
              refine pe_get (j := 7) (ci := 12) (n := 0) (by decide +kernel) (by decide +kernel) (md_o hc) rfl ?_
              refine pe_iconstv (n := 4) (v := 4) (by decide +kernel) (by decide +kernel) ?_
              refine mz_ld148 (by decide +kernel) hc hI kz_4 (by omega) (by omega) (fun v93 ev93 pv93 => ?_)
              rw [ev93.trans ev82.symm]
              clear pv93 ev93 v93
              refine pe_iload_n (j := 2) (by decide +kernel) rfl ?_
              refine pz_icmp_ne (off := 14) (t := 47) (by decide +kernel) (by decide) rfl rfl rfl (fun h94 => ?_) (fun h94 => ?_)
              · skip
                refine pe_aload_n (j := 0) (by decide +kernel) rfl ?_
                refine pe_get (j := 7) (ci := 12) (n := 0) (by decide +kernel) (by decide +kernel) (md_o hc) rfl ?_
                refine pe_iconstv (n := 3) (v := 3) (by decide +kernel) (by decide +kernel) ?_
                refine pe_iload_n (j := 1) (by decide +kernel) rfl ?_
                refine mz_st148 (by decide +kernel) hc hI kz_3 (by omega) (by omega) (by rw [kz_2]; simp only [MT]; omega) (fun A95 eA95 hIA95 => ?_)
                refine pe_aload_n (j := 0) (by decide +kernel) rfl ?_
                refine pe_get (j := 7) (ci := 12) (n := 0) (by decide +kernel) (by decide +kernel) (md_o hc) rfl ?_
                refine pe_iconstv (n := 4) (v := 4) (by decide +kernel) (by decide +kernel) ?_
                refine pe_iload_n (j := 2) (by decide +kernel) rfl ?_
                refine mz_st148 (by decide +kernel) hc hIA95 kz_4 (by omega) (by omega) (by simp only [MT]; omega) (fun A96 eA96 hIA96 => ?_)
                refine pe_vret (by decide +kernel) rfl ⟨rfl, rfl, ?_⟩
                show pmE pg X pg_tyl pg_cl (d + 3) 210 44 [.ref 147, .int x1, .int x2, .int (f 6)] [] (md wc f A96) _
                refine pe_aload_n (j := 0) (by decide +kernel) rfl ?_
                refine pz_callV (j := 127) (mj := 201) (by decide +kernel) (cll_V (args := []) (n := 0) (by decide +kernel) rfl rfl (md_o hc) (by decide +kernel) (Nat.le_of_ble_eq_true rfl) (Nat.le_of_ble_eq_true rfl)) (MM_201 hc hIA96) (fun q97a q97b q97c q97d hqq97 => ?_)
                obtain ⟨f98, eq97, hIq97, hGq97, kq97⟩ := hqq97
                cases eq97
                refine ⟨rfl, rfl, ?_⟩
                show pmE pg X pg_tyl pg_cl (d + 3) 210 48 [.ref 147, .int x1, .int x2, .int (f 6)] [] (md wc f98 A96) _
                refine pe_iload_n (j := 3) (by decide +kernel) rfl ?_
                refine pe_iload_n (j := 1) (by decide +kernel) rfl ?_
                refine pe_iload_n (j := 2) (by decide +kernel) rfl ?_
                refine pi_S (j := 119) (mj := 199) (by decide +kernel) (by decide +kernel) rfl ?_
                show pmE pg X pg_tyl pg_cl (d + 2) 199 0 [.int (f 6), .int x1, .int x2] [] (md wc f98 A96) _
                refine pe_iload_n (j := 0) (by decide +kernel) rfl ?_
                refine pe_iload_n (j := 1) (by decide +kernel) rfl ?_
                refine pz_icmp_lt (off := 12) (t := 14) (by decide +kernel) (by decide) rfl rfl rfl (fun h99 => ?_) (fun h99 => ?_)
                · skip
                  refine pe_iconstv (n := 0) (v := 0) (by decide +kernel) (by decide +kernel) ?_
                  refine pe_iret (by decide +kernel) rfl rfl ⟨rfl, rfl, ?_⟩
                  show pmE pg X pg_tyl pg_cl (d + 3) 210 54 [.ref 147, .int x1, .int x2, .int (f 6)] [.int 0] (md wc f98 A96) _
                  refine pz_if_eq (off := 7) (t := 61) (by decide +kernel) (by decide) rfl kz_0 (fun h100 => ?_) (fun h100 => by omega)
                  refine pe_iload_n (j := 1) (by decide +kernel) rfl ?_
                  exact pe_iret (by decide +kernel) rfl rfl ⟨f98, A96, x1, rfl, hIq97, (fun k n3 n4 n5 n6 n7 n8 => (hGq97 k n3 n4 n5 n6 n7)), (fun k n148 => (upa_fr eA96 n148).trans (upa_fr eA95 n148)), ⟨trivial, trivial⟩⟩
                · skip
                  refine pe_iload_n (j := 0) (by decide +kernel) rfl ?_
                  refine pe_iload_n (j := 2) (by decide +kernel) rfl ?_
                  refine pz_icmp_gt (off := 7) (t := 14) (by decide +kernel) (by decide) rfl rfl rfl (fun h101 => ?_) (fun h101 => ?_)
                  · skip
                    refine pe_iconstv (n := 0) (v := 0) (by decide +kernel) (by decide +kernel) ?_
                    refine pe_iret (by decide +kernel) rfl rfl ⟨rfl, rfl, ?_⟩
                    show pmE pg X pg_tyl pg_cl (d + 3) 210 54 [.ref 147, .int x1, .int x2, .int (f 6)] [.int 0] (md wc f98 A96) _
                    refine pz_if_eq (off := 7) (t := 61) (by decide +kernel) (by decide) rfl kz_0 (fun h102 => ?_) (fun h102 => by omega)
                    refine pe_iload_n (j := 1) (by decide +kernel) rfl ?_
                    exact pe_iret (by decide +kernel) rfl rfl ⟨f98, A96, x1, rfl, hIq97, (fun k n3 n4 n5 n6 n7 n8 => (hGq97 k n3 n4 n5 n6 n7)), (fun k n148 => (upa_fr eA96 n148).trans (upa_fr eA95 n148)), ⟨trivial, trivial⟩⟩
                  · skip
                    refine pe_iconstv (n := 1) (v := 1) (by decide +kernel) (by decide +kernel) ?_
                    refine pe_goto (off := 4) (t := 15) (by decide +kernel) (by decide) rfl ?_
                    refine pe_iret (by decide +kernel) rfl rfl ⟨rfl, rfl, ?_⟩
                    show pmE pg X pg_tyl pg_cl (d + 3) 210 54 [.ref 147, .int x1, .int x2, .int (f 6)] [.int 1] (md wc f98 A96) _
                    refine pz_if_eq (off := 7) (t := 61) (by decide +kernel) (by decide) rfl kz_1 (fun h103 => by omega) (fun h103 => ?_)
                    refine pe_iload_n (j := 3) (by decide +kernel) rfl ?_
                    refine pe_goto (off := 4) (t := 62) (by decide +kernel) (by decide) rfl ?_
                    exact pe_iret (by decide +kernel) rfl rfl ⟨f98, A96, (f 6), rfl, hIq97, (fun k n3 n4 n5 n6 n7 n8 => (hGq97 k n3 n4 n5 n6 n7)), (fun k n148 => (upa_fr eA96 n148).trans (upa_fr eA95 n148)), ⟨trivial, trivial⟩⟩
              · skip
                refine pe_aload_n (j := 0) (by decide +kernel) rfl ?_
                refine pe_get (j := 7) (ci := 12) (n := 0) (by decide +kernel) (by decide +kernel) (md_o hc) rfl ?_
                refine pe_iconstv (n := 3) (v := 3) (by decide +kernel) (by decide +kernel) ?_
                refine mz_ld148 (by decide +kernel) hc hI kz_3 (by omega) (by omega) (fun v104 ev104 pv104 => ?_)
                rw [ev104.trans ev70.symm]
                clear pv104 ev104 v104
                refine pe_iload_n (j := 1) (by decide +kernel) rfl ?_
                refine pz_icmp_gt (off := 4) (t := 47) (by decide +kernel) (by decide) rfl rfl kz_2 (fun h105 => ?_) (fun h105 => ?_)
                · skip
                  refine pe_aload_n (j := 0) (by decide +kernel) rfl ?_
                  refine pe_get (j := 7) (ci := 12) (n := 0) (by decide +kernel) (by decide +kernel) (md_o hc) rfl ?_
                  refine pe_iconstv (n := 3) (v := 3) (by decide +kernel) (by decide +kernel) ?_
                  refine pe_iload_n (j := 1) (by decide +kernel) rfl ?_
                  refine mz_st148 (by decide +kernel) hc hI kz_3 (by omega) (by omega) (by rw [kz_2]; simp only [MT]; omega) (fun A106 eA106 hIA106 => ?_)
                  refine pe_aload_n (j := 0) (by decide +kernel) rfl ?_
                  refine pe_get (j := 7) (ci := 12) (n := 0) (by decide +kernel) (by decide +kernel) (md_o hc) rfl ?_
                  refine pe_iconstv (n := 4) (v := 4) (by decide +kernel) (by decide +kernel) ?_
                  refine pe_iload_n (j := 2) (by decide +kernel) rfl ?_
                  refine mz_st148 (by decide +kernel) hc hIA106 kz_4 (by omega) (by omega) (by simp only [MT]; omega) (fun A107 eA107 hIA107 => ?_)
                  refine pe_vret (by decide +kernel) rfl ⟨rfl, rfl, ?_⟩
                  show pmE pg X pg_tyl pg_cl (d + 3) 210 44 [.ref 147, .int x1, .int x2, .int (f 6)] [] (md wc f A107) _
                  refine pe_aload_n (j := 0) (by decide +kernel) rfl ?_
                  refine pz_callV (j := 127) (mj := 201) (by decide +kernel) (cll_V (args := []) (n := 0) (by decide +kernel) rfl rfl (md_o hc) (by decide +kernel) (Nat.le_of_ble_eq_true rfl) (Nat.le_of_ble_eq_true rfl)) (MM_201 hc hIA107) (fun q108a q108b q108c q108d hqq108 => ?_)
                  obtain ⟨f109, eq108, hIq108, hGq108, kq108⟩ := hqq108
                  cases eq108
                  refine ⟨rfl, rfl, ?_⟩
                  show pmE pg X pg_tyl pg_cl (d + 3) 210 48 [.ref 147, .int x1, .int x2, .int (f 6)] [] (md wc f109 A107) _
                  refine pe_iload_n (j := 3) (by decide +kernel) rfl ?_
                  refine pe_iload_n (j := 1) (by decide +kernel) rfl ?_
                  refine pe_iload_n (j := 2) (by decide +kernel) rfl ?_
                  refine pi_S (j := 119) (mj := 199) (by decide +kernel) (by decide +kernel) rfl ?_
                  show pmE pg X pg_tyl pg_cl (d + 2) 199 0 [.int (f 6), .int x1, .int x2] [] (md wc f109 A107) _
                  refine pe_iload_n (j := 0) (by decide +kernel) rfl ?_
                  refine pe_iload_n (j := 1) (by decide +kernel) rfl ?_
                  refine pz_icmp_lt (off := 12) (t := 14) (by decide +kernel) (by decide) rfl rfl rfl (fun h110 => ?_) (fun h110 => ?_)
                  · skip
                    refine pe_iconstv (n := 0) (v := 0) (by decide +kernel) (by decide +kernel) ?_
                    refine pe_iret (by decide +kernel) rfl rfl ⟨rfl, rfl, ?_⟩
                    show pmE pg X pg_tyl pg_cl (d + 3) 210 54 [.ref 147, .int x1, .int x2, .int (f 6)] [.int 0] (md wc f109 A107) _
                    refine pz_if_eq (off := 7) (t := 61) (by decide +kernel) (by decide) rfl kz_0 (fun h111 => ?_) (fun h111 => by omega)
                    refine pe_iload_n (j := 1) (by decide +kernel) rfl ?_
                    exact pe_iret (by decide +kernel) rfl rfl ⟨f109, A107, x1, rfl, hIq108, (fun k n3 n4 n5 n6 n7 n8 => (hGq108 k n3 n4 n5 n6 n7)), (fun k n148 => (upa_fr eA107 n148).trans (upa_fr eA106 n148)), ⟨trivial, trivial⟩⟩
                  · skip
                    refine pe_iload_n (j := 0) (by decide +kernel) rfl ?_
                    refine pe_iload_n (j := 2) (by decide +kernel) rfl ?_
                    refine pz_icmp_gt (off := 7) (t := 14) (by decide +kernel) (by decide) rfl rfl rfl (fun h112 => ?_) (fun h112 => ?_)
                    · skip
                      refine pe_iconstv (n := 0) (v := 0) (by decide +kernel) (by decide +kernel) ?_
                      refine pe_iret (by decide +kernel) rfl rfl ⟨rfl, rfl, ?_⟩
                      show pmE pg X pg_tyl pg_cl (d + 3) 210 54 [.ref 147, .int x1, .int x2, .int (f 6)] [.int 0] (md wc f109 A107) _
                      refine pz_if_eq (off := 7) (t := 61) (by decide +kernel) (by decide) rfl kz_0 (fun h113 => ?_) (fun h113 => by omega)
                      refine pe_iload_n (j := 1) (by decide +kernel) rfl ?_
                      exact pe_iret (by decide +kernel) rfl rfl ⟨f109, A107, x1, rfl, hIq108, (fun k n3 n4 n5 n6 n7 n8 => (hGq108 k n3 n4 n5 n6 n7)), (fun k n148 => (upa_fr eA107 n148).trans (upa_fr eA106 n148)), ⟨trivial, trivial⟩⟩
                    · skip
                      refine pe_iconstv (n := 1) (v := 1) (by decide +kernel) (by decide +kernel) ?_
                      refine pe_goto (off := 4) (t := 15) (by decide +kernel) (by decide) rfl ?_
                      refine pe_iret (by decide +kernel) rfl rfl ⟨rfl, rfl, ?_⟩
                      show pmE pg X pg_tyl pg_cl (d + 3) 210 54 [.ref 147, .int x1, .int x2, .int (f 6)] [.int 1] (md wc f109 A107) _
                      refine pz_if_eq (off := 7) (t := 61) (by decide +kernel) (by decide) rfl kz_1 (fun h114 => by omega) (fun h114 => ?_)
                      refine pe_iload_n (j := 3) (by decide +kernel) rfl ?_
                      refine pe_goto (off := 4) (t := 62) (by decide +kernel) (by decide) rfl ?_
                      exact pe_iret (by decide +kernel) rfl rfl ⟨f109, A107, (f 6), rfl, hIq108, (fun k n3 n4 n5 n6 n7 n8 => (hGq108 k n3 n4 n5 n6 n7)), (fun k n148 => (upa_fr eA107 n148).trans (upa_fr eA106 n148)), ⟨trivial, trivial⟩⟩
                · skip
                  refine pe_vret (by decide +kernel) rfl ⟨rfl, rfl, ?_⟩
                  show pmE pg X pg_tyl pg_cl (d + 3) 210 44 [.ref 147, .int x1, .int x2, .int (f 6)] [] (md wc f A) _
                  refine pe_aload_n (j := 0) (by decide +kernel) rfl ?_
                  refine pz_callV (j := 127) (mj := 201) (by decide +kernel) (cll_V (args := []) (n := 0) (by decide +kernel) rfl rfl (md_o hc) (by decide +kernel) (Nat.le_of_ble_eq_true rfl) (Nat.le_of_ble_eq_true rfl)) (MM_201 hc hI) (fun q115a q115b q115c q115d hqq115 => ?_)
                  obtain ⟨f116, eq115, hIq115, hGq115, kq115⟩ := hqq115
                  cases eq115
                  refine ⟨rfl, rfl, ?_⟩
                  show pmE pg X pg_tyl pg_cl (d + 3) 210 48 [.ref 147, .int x1, .int x2, .int (f 6)] [] (md wc f116 A) _
                  refine pe_iload_n (j := 3) (by decide +kernel) rfl ?_
                  refine pe_iload_n (j := 1) (by decide +kernel) rfl ?_
                  refine pe_iload_n (j := 2) (by decide +kernel) rfl ?_
                  refine pi_S (j := 119) (mj := 199) (by decide +kernel) (by decide +kernel) rfl ?_
                  show pmE pg X pg_tyl pg_cl (d + 2) 199 0 [.int (f 6), .int x1, .int x2] [] (md wc f116 A) _
                  refine pe_iload_n (j := 0) (by decide +kernel) rfl ?_
                  refine pe_iload_n (j := 1) (by decide +kernel) rfl ?_
                  refine pz_icmp_lt (off := 12) (t := 14) (by decide +kernel) (by decide) rfl rfl rfl (fun h117 => ?_) (fun h117 => ?_)
                  · skip
                    refine pe_iconstv (n := 0) (v := 0) (by decide +kernel) (by decide +kernel) ?_
                    refine pe_iret (by decide +kernel) rfl rfl ⟨rfl, rfl, ?_⟩
                    show pmE pg X pg_tyl pg_cl (d + 3) 210 54 [.ref 147, .int x1, .int x2, .int (f 6)] [.int 0] (md wc f116 A) _
                    refine pz_if_eq (off := 7) (t := 61) (by decide +kernel) (by decide) rfl kz_0 (fun h118 => ?_) (fun h118 => by omega)
                    refine pe_iload_n (j := 1) (by decide +kernel) rfl ?_
                    exact pe_iret (by decide +kernel) rfl rfl ⟨f116, A, x1, rfl, hIq115, (fun k n3 n4 n5 n6 n7 n8 => (hGq115 k n3 n4 n5 n6 n7)), (fun k n148 => rfl), ⟨trivial, trivial⟩⟩
                  · skip
                    refine pe_iload_n (j := 0) (by decide +kernel) rfl ?_
                    refine pe_iload_n (j := 2) (by decide +kernel) rfl ?_
                    refine pz_icmp_gt (off := 7) (t := 14) (by decide +kernel) (by decide) rfl rfl rfl (fun h119 => ?_) (fun h119 => ?_)
                    · skip
                      refine pe_iconstv (n := 0) (v := 0) (by decide +kernel) (by decide +kernel) ?_
                      refine pe_iret (by decide +kernel) rfl rfl ⟨rfl, rfl, ?_⟩
                      show pmE pg X pg_tyl pg_cl (d + 3) 210 54 [.ref 147, .int x1, .int x2, .int (f 6)] [.int 0] (md wc f116 A) _
                      refine pz_if_eq (off := 7) (t := 61) (by decide +kernel) (by decide) rfl kz_0 (fun h120 => ?_) (fun h120 => by omega)
                      refine pe_iload_n (j := 1) (by decide +kernel) rfl ?_
                      exact pe_iret (by decide +kernel) rfl rfl ⟨f116, A, x1, rfl, hIq115, (fun k n3 n4 n5 n6 n7 n8 => (hGq115 k n3 n4 n5 n6 n7)), (fun k n148 => rfl), ⟨trivial, trivial⟩⟩
                    · skip
                      refine pe_iconstv (n := 1) (v := 1) (by decide +kernel) (by decide +kernel) ?_
                      refine pe_goto (off := 4) (t := 15) (by decide +kernel) (by decide) rfl ?_
                      refine pe_iret (by decide +kernel) rfl rfl ⟨rfl, rfl, ?_⟩
                      show pmE pg X pg_tyl pg_cl (d + 3) 210 54 [.ref 147, .int x1, .int x2, .int (f 6)] [.int 1] (md wc f116 A) _
                      refine pz_if_eq (off := 7) (t := 61) (by decide +kernel) (by decide) rfl kz_1 (fun h121 => by omega) (fun h121 => ?_)
                      refine pe_iload_n (j := 3) (by decide +kernel) rfl ?_
                      refine pe_goto (off := 4) (t := 62) (by decide +kernel) (by decide) rfl ?_
                      exact pe_iret (by decide +kernel) rfl rfl ⟨f116, A, (f 6), rfl, hIq115, (fun k n3 n4 n5 n6 n7 n8 => (hGq115 k n3 n4 n5 n6 n7)), (fun k n148 => rfl), ⟨trivial, trivial⟩⟩
        · skip
          refine pe_iconstv (n := 1) (v := 1) (by decide +kernel) (by decide +kernel) ?_
          refine pe_goto (off := 4) (t := 15) (by decide +kernel) (by decide) rfl ?_
          refine pe_iret (by decide +kernel) rfl rfl ⟨rfl, rfl, ?_⟩
          show pmE pg X pg_tyl pg_cl (d + 3) 210 32 [.ref 147, .int x1, .int x2, .int (f 6)] [.int 1] (md wc f A) _
          refine pz_if_ne (off := 12) (t := 44) (by decide +kernel) (by decide) rfl kz_1 (fun h122 => ?_) (fun h122 => by omega)
          refine pe_aload_n (j := 0) (by decide +kernel) rfl ?_
          refine pz_callV (j := 127) (mj := 201) (by decide +kernel) (cll_V (args := []) (n := 0) (by decide +kernel) rfl rfl (md_o hc) (by decide +kernel) (Nat.le_of_ble_eq_true rfl) (Nat.le_of_ble_eq_true rfl)) (MM_201 hc hI) (fun q123a q123b q123c q123d hqq123 => ?_)
          obtain ⟨f124, eq123, hIq123, hGq123, kq123⟩ := hqq123
          cases eq123
          refine ⟨rfl, rfl, ?_⟩
          show pmE pg X pg_tyl pg_cl (d + 3) 210 48 [.ref 147, .int x1, .int x2, .int (f 6)] [] (md wc f124 A) _
          refine pe_iload_n (j := 3) (by decide +kernel) rfl ?_
          refine pe_iload_n (j := 1) (by decide +kernel) rfl ?_
          refine pe_iload_n (j := 2) (by decide +kernel) rfl ?_
          refine pi_S (j := 119) (mj := 199) (by decide +kernel) (by decide +kernel) rfl ?_
          show pmE pg X pg_tyl pg_cl (d + 2) 199 0 [.int (f 6), .int x1, .int x2] [] (md wc f124 A) _
          refine pe_iload_n (j := 0) (by decide +kernel) rfl ?_
          refine pe_iload_n (j := 1) (by decide +kernel) rfl ?_
          refine pz_icmp_lt (off := 12) (t := 14) (by decide +kernel) (by decide) rfl rfl rfl (fun h125 => ?_) (fun h125 => ?_)
          · skip
            refine pe_iconstv (n := 0) (v := 0) (by decide +kernel) (by decide +kernel) ?_
            refine pe_iret (by decide +kernel) rfl rfl ⟨rfl, rfl, ?_⟩
            show pmE pg X pg_tyl pg_cl (d + 3) 210 54 [.ref 147, .int x1, .int x2, .int (f 6)] [.int 0] (md wc f124 A) _
            refine pz_if_eq (off := 7) (t := 61) (by decide +kernel) (by decide) rfl kz_0 (fun h126 => ?_) (fun h126 => by omega)
            refine pe_iload_n (j := 1) (by decide +kernel) rfl ?_
            exact pe_iret (by decide +kernel) rfl rfl ⟨f124, A, x1, rfl, hIq123, (fun k n3 n4 n5 n6 n7 n8 => (hGq123 k n3 n4 n5 n6 n7)), (fun k n148 => rfl), ⟨trivial, trivial⟩⟩
          · skip
            refine pe_iload_n (j := 0) (by decide +kernel) rfl ?_
            refine pe_iload_n (j := 2) (by decide +kernel) rfl ?_
            refine pz_icmp_gt (off := 7) (t := 14) (by decide +kernel) (by decide) rfl rfl rfl (fun h127 => ?_) (fun h127 => ?_)
            · skip
              refine pe_iconstv (n := 0) (v := 0) (by decide +kernel) (by decide +kernel) ?_
              refine pe_iret (by decide +kernel) rfl rfl ⟨rfl, rfl, ?_⟩
              show pmE pg X pg_tyl pg_cl (d + 3) 210 54 [.ref 147, .int x1, .int x2, .int (f 6)] [.int 0] (md wc f124 A) _
              refine pz_if_eq (off := 7) (t := 61) (by decide +kernel) (by decide) rfl kz_0 (fun h128 => ?_) (fun h128 => by omega)
              refine pe_iload_n (j := 1) (by decide +kernel) rfl ?_
              exact pe_iret (by decide +kernel) rfl rfl ⟨f124, A, x1, rfl, hIq123, (fun k n3 n4 n5 n6 n7 n8 => (hGq123 k n3 n4 n5 n6 n7)), (fun k n148 => rfl), ⟨trivial, trivial⟩⟩
            · skip
              refine pe_iconstv (n := 1) (v := 1) (by decide +kernel) (by decide +kernel) ?_
              refine pe_goto (off := 4) (t := 15) (by decide +kernel) (by decide) rfl ?_
              refine pe_iret (by decide +kernel) rfl rfl ⟨rfl, rfl, ?_⟩
              show pmE pg X pg_tyl pg_cl (d + 3) 210 54 [.ref 147, .int x1, .int x2, .int (f 6)] [.int 1] (md wc f124 A) _
              refine pz_if_eq (off := 7) (t := 61) (by decide +kernel) (by decide) rfl kz_1 (fun h129 => by omega) (fun h129 => ?_)
              refine pe_iload_n (j := 3) (by decide +kernel) rfl ?_
              refine pe_goto (off := 4) (t := 62) (by decide +kernel) (by decide) rfl ?_
              exact pe_iret (by decide +kernel) rfl rfl ⟨f124, A, (f 6), rfl, hIq123, (fun k n3 n4 n5 n6 n7 n8 => (hGq123 k n3 n4 n5 n6 n7)), (fun k n148 => rfl), ⟨trivial, trivial⟩⟩
    · skip
      refine pe_aload_n (j := 0) (by decide +kernel) rfl ?_
      refine pi_V (j := 116) (mj := 209) (by decide +kernel) (cll_V (args := []) (n := 0) (by decide +kernel) rfl rfl (md_o hc) (by decide +kernel) (Nat.le_of_ble_eq_true rfl) (Nat.le_of_ble_eq_true rfl)) ?_
      show pmE pg X pg_tyl pg_cl (d + 2) 209 0 [.ref 147] [] (md wc f A) _
      refine pe_aload_n (j := 0) (by decide +kernel) rfl ?_
      refine pe_get (j := 112) (ci := 12) (n := 8) (by decide +kernel) (by decide +kernel) (md_o hc) rfl ?_
      refine pz_if_eq (off := 4) (t := 8) (by decide +kernel) (by decide) rfl rfl (fun h130 => ?_) (fun h130 => by omega)
      refine pe_aload_n (j := 0) (by decide +kernel) rfl ?_
      refine pe_iconstv (n := 1) (v := 1) (by decide +kernel) (by decide +kernel) ?_
      refine mz_put8 (jj := 112) (by decide +kernel) (by decide +kernel) hc hI (by decide +kernel) (by decide +kernel) (by decide +kernel) (fun f131 ef131 hIf131 => ?_)
      refine pe_aload_n (j := 0) (by decide +kernel) rfl ?_
      refine pe_get (j := 7) (ci := 12) (n := 0) (by decide +kernel) (by decide +kernel) (md_o hc) rfl ?_
      refine pe_iconstv (n := 3) (v := 3) (by decide +kernel) (by decide +kernel) ?_
      refine pe_iconstv (n := 1) (v := 1) (by decide +kernel) (by decide +kernel) ?_
      refine mz_st148 (by decide +kernel) hc hIf131 kz_3 (by omega) (by omega) (by rw [kz_1]; simp only [MT]; omega) (fun A132 eA132 hIA132 => ?_)
      refine pe_aload_n (j := 0) (by decide +kernel) rfl ?_
      refine pe_get (j := 7) (ci := 12) (n := 0) (by decide +kernel) (by decide +kernel) (md_o hc) rfl ?_
      refine pe_iconstv (n := 4) (v := 4) (by decide +kernel) (by decide +kernel) ?_
      refine pe_aload_n (j := 0) (by decide +kernel) rfl ?_
      refine pe_get (j := 90) (ci := 12) (n := 4) (by decide +kernel) (by decide +kernel) (md_o hc) rfl ?_
      refine pe_top (v := (f 4)) (upf_fr ef131 (by decide)) ?_
      refine mz_st148 (by decide +kernel) hc hIA132 kz_4 (by omega) (by omega) (by simp only [MT]; omega) (fun A133 eA133 hIA133 => ?_)
      refine pe_vret (by decide +kernel) rfl ⟨rfl, rfl, ?_⟩
      show pmE pg X pg_tyl pg_cl (d + 3) 210 19 [.ref 147, .int x1, .int x2, pm_dead] [] (md wc f131 A133) _
      refine pe_iload_n (j := 1) (by decide +kernel) rfl ?_
      exact pe_iret (by decide +kernel) rfl rfl ⟨f131, A133, x1, rfl, hIA133, (fun k n3 n4 n5 n6 n7 n8 => upf_fr ef131 n8), (fun k n148 => (upa_fr eA133 n148).trans (upa_fr eA132 n148)), ⟨trivial, trivial⟩⟩
