section
set_option maxRecDepth 100000 in
set_option maxHeartbeats 8000000 in
theorem NM_209 {X : pm_X} {d : Nat} {wc : pm_W} {f : Nat → Int32} {A : Nat → List Int32} (hc : wc.length = 147) (hI : MI f A) (hpp0 : JJ f A) : pmE pg X pg_tyl pg_cl (d) 209 0 (pm_ent (pm_max pg 209) [.ref 147]) [] (md wc f A) (fun q => ∃ (f' : Nat → Int32) (A' : Nat → List Int32), q = (none, md wc f' A', 0, 0) ∧ MI f' A' ∧ (∀ k : Nat, k ≠ 8 → f' k = f k) ∧ (∀ k : Nat, k ≠ 148 → A' k = A k) ∧ ((TX f f' A A' ∧ TS f f' ∧ fr (A' 148) 3 ≠ 0 ∧ True))) := by
  show pmE pg X pg_tyl pg_cl (d) 209 0 [.ref 147] [] (md wc f A) _
  refine pe_aload_n (j := 0) (by decide +kernel) rfl ?_
  refine pe_get (j := 112) (ci := 12) (n := 8) (by decide +kernel) (by decide +kernel) (md_o hc) rfl ?_
  have hr_f_8 := mf_8 hI
  refine pz_if_eq (off := 4) (t := 8) (by decide +kernel) (by decide) rfl rfl (fun h1 => ?_) (fun h1 => ?_)
  · skip
    refine pe_aload_n (j := 0) (by decide +kernel) rfl ?_
    refine pe_iconstv (n := 1) (v := 1) (by decide +kernel) (by decide +kernel) ?_
    refine mz_put8 (jj := 112) (by decide +kernel) (by decide +kernel) hc hI (by decide +kernel) (by decide +kernel) (by decide +kernel) (fun f2 ef2 hIf2 => ?_)
    refine pe_aload_n (j := 0) (by decide +kernel) rfl ?_
    refine pe_get (j := 7) (ci := 12) (n := 0) (by decide +kernel) (by decide +kernel) (md_o hc) rfl ?_
    refine pe_iconstv (n := 3) (v := 3) (by decide +kernel) (by decide +kernel) ?_
    refine pe_iconstv (n := 1) (v := 1) (by decide +kernel) (by decide +kernel) ?_
    refine mz_st148 (by decide +kernel) hc hIf2 kz_3 (by omega) (by omega) (by rw [kz_1]; simp only [MT]; omega) (fun A3 eA3 hIA3 => ?_)
    refine pe_aload_n (j := 0) (by decide +kernel) rfl ?_
    refine pe_get (j := 7) (ci := 12) (n := 0) (by decide +kernel) (by decide +kernel) (md_o hc) rfl ?_
    refine pe_iconstv (n := 4) (v := 4) (by decide +kernel) (by decide +kernel) ?_
    refine pe_aload_n (j := 0) (by decide +kernel) rfl ?_
    refine pe_get (j := 90) (ci := 12) (n := 4) (by decide +kernel) (by decide +kernel) (md_o hc) rfl ?_
    refine pe_top (v := (f 4)) (upf_fr ef2 (by decide)) ?_
    refine mz_st148 (by decide +kernel) hc hIA3 kz_4 (by omega) (by omega) (by simp only [MT]; omega) (fun A4 eA4 hIA4 => ?_)
    have hen5 := TX_ends (v := 1) ef2 kz_1 (by omega) eA3 eA4 (mlen_148 hI) (by decide +kernel)
    have hft6 := set3_ne eA3 eA4 (mlen_148 hI) (v := 1) (by decide +kernel)
    exact pe_vret (by decide +kernel) rfl ⟨f2, A4, rfl, hIA4, (fun k n8 => upf_fr ef2 n8), (fun k n148 => (upa_fr eA4 n148).trans (upa_fr eA3 n148)), ⟨hen5.1, hen5.2, hft6, trivial⟩⟩
  · skip
    have hft7 : fr (A 148) 3 ≠ 0 := hpp0 (by omega)
    have hts8 : TS f f := fun h => absurd h (by omega)
    have htx9 : TX f f A A := TX_refl hpp0
    exact pe_vret (by decide +kernel) rfl ⟨f, A, rfl, hI, (fun k n8 => rfl), (fun k n148 => rfl), ⟨htx9, hts8, hft7, trivial⟩⟩
set_option maxRecDepth 100000 in
set_option maxHeartbeats 8000000 in
theorem NM_211 {X : pm_X} {d : Nat} {wc : pm_W} {f : Nat → Int32} {A : Nat → List Int32} {x1 x2 : Int32} (hc : wc.length = 147) (hI : MI f A) (gx1 : (1 ≤ x1.toInt ∧ x1.toInt ≤ 4)) (hpp0 : JJ f A) : pmE pg X pg_tyl pg_cl (d) 211 0 (pm_ent (pm_max pg 211) [.ref 147, .int x1, .int x2]) [] (md wc f A) (fun q => ∃ (A' : Nat → List Int32), q = (none, md wc f A', 0, 0) ∧ MI f A' ∧ (∀ k : Nat, k ≠ 148 → A' k = A k) ∧ ((TX f f A A' ∧ fr (A' 148) 3 ≠ 0 ∧ True))) := by
  show pmE pg X pg_tyl pg_cl (d) 211 0 [.ref 147, .int x1, .int x2] [] (md wc f A) _
  refine pe_aload_n (j := 0) (by decide +kernel) rfl ?_
  refine pe_get (j := 112) (ci := 12) (n := 8) (by decide +kernel) (by decide +kernel) (md_o hc) rfl ?_
  have hr_f_8 := mf_8 hI
  refine pz_if_ne (off := 42) (t := 46) (by decide +kernel) (by decide) rfl rfl (fun h1 => ?_) (fun h1 => ?_)
  · skip
    have hft2 : fr (A 148) 3 ≠ 0 := hpp0 (by have h8 := mf_8 hI; omega)
    have htx3 : TX f f A A := TX_refl hpp0
    exact pe_vret (by decide +kernel) rfl ⟨A, rfl, hI, (fun k n148 => rfl), ⟨htx3, hft2, trivial⟩⟩
  · skip
    refine pe_aload_n (j := 0) (by decide +kernel) rfl ?_
    refine pe_get (j := 7) (ci := 12) (n := 0) (by decide +kernel) (by decide +kernel) (md_o hc) rfl ?_
    refine pe_iconstv (n := 3) (v := 3) (by decide +kernel) (by decide +kernel) ?_
    refine pz_iald (by decide +kernel) (md_a148 hc) (mlen_148 hI) kz_3 (by omega) (by omega) (fun v4 ev4 => ?_)
    have lw6 := zi_lo v4
    have uw6 := zi_hi v4
    refine pz_if_eq (off := 34) (t := 47) (by decide +kernel) (by decide) rfl rfl (fun h5 => ?_) (fun h5 => ?_)
    · skip
      refine pe_aload_n (j := 0) (by decide +kernel) rfl ?_
      refine pe_get (j := 7) (ci := 12) (n := 0) (by decide +kernel) (by decide +kernel) (md_o hc) rfl ?_
      refine pe_iconstv (n := 3) (v := 3) (by decide +kernel) (by decide +kernel) ?_
      refine pe_iload_n (j := 1) (by decide +kernel) rfl ?_
      refine mz_st148 (by decide +kernel) hc hI kz_3 (by omega) (by omega) (by simp only [MT]; omega) (fun A7 eA7 hIA7 => ?_)
      refine pe_aload_n (j := 0) (by decide +kernel) rfl ?_
      refine pe_get (j := 7) (ci := 12) (n := 0) (by decide +kernel) (by decide +kernel) (md_o hc) rfl ?_
      refine pe_iconstv (n := 4) (v := 4) (by decide +kernel) (by decide +kernel) ?_
      refine pe_iload_n (j := 2) (by decide +kernel) rfl ?_
      refine mz_st148 (by decide +kernel) hc hIA7 kz_4 (by omega) (by omega) (by simp only [MT]; omega) (fun A8 eA8 hIA8 => ?_)
      have htx9 : TX f f A A := TX_refl hpp0
      have htx10 := TX_set (TX_set htx9 eA7 (mlen_148 hI) (by decide) (fun _ => by omega)) eA8 (mlen_148 hIA7) (by decide) (fun h => absurd h (by decide))
      have hft11 := set3_ne eA7 eA8 (mlen_148 hI) (v := x1) (by omega)
      exact pe_vret (by decide +kernel) rfl ⟨A8, rfl, hIA8, (fun k n148 => (upa_fr eA8 n148).trans (upa_fr eA7 n148)), ⟨htx10, hft11, trivial⟩⟩
    · skip
      refine pe_aload_n (j := 0) (by decide +kernel) rfl ?_
      refine pe_get (j := 7) (ci := 12) (n := 0) (by decide +kernel) (by decide +kernel) (md_o hc) rfl ?_
      refine pe_iconstv (n := 4) (v := 4) (by decide +kernel) (by decide +kernel) ?_
      refine pz_iald (by decide +kernel) (md_a148 hc) (mlen_148 hI) kz_4 (by omega) (by omega) (fun v12 ev12 => ?_)
      refine pe_iload_n (j := 2) (by decide +kernel) rfl ?_
      have lw14 := zi_lo v12
      have uw14 := zi_hi v12
      have lw15 := zi_lo x2
      have uw15 := zi_hi x2
      refine pz_icmp_lt (off := 23) (t := 46) (by decide +kernel) (by decide) rfl rfl rfl (fun h13 => ?_) (fun h13 => ?_)
      · skip
        have hft16 : fr (A 148) 3 ≠ 0 := by rw [(show fr (A 148) (3) = v4.toInt from congrArg Int32.toInt ev4.symm)]; omega
        have htx17 : TX f f A A := TX_refl hpp0
        exact pe_vret (by decide +kernel) rfl ⟨A, rfl, hI, (fun k n148 => rfl), ⟨htx17, hft16, trivial⟩⟩
      · skip
        refine pe_aload_n (j := 0) (by decide +kernel) rfl ?_
        refine pe_get (j := 7) (ci := 12) (n := 0) (by decide +kernel) (by decide +kernel) (md_o hc) rfl ?_
        refine pe_iconstv (n := 4) (v := 4) (by decide +kernel) (by decide +kernel) ?_
        refine pz_iald (by decide +kernel) (md_a148 hc) (mlen_148 hI) kz_4 (by omega) (by omega) (fun v18 ev18 => ?_)
        rw [ev18.trans ev12.symm]
        clear ev18 v18
        refine pe_iload_n (j := 2) (by decide +kernel) rfl ?_
        refine pz_icmp_ne (off := 14) (t := 47) (by decide +kernel) (by decide) rfl rfl rfl (fun h19 => ?_) (fun h19 => ?_)
        · skip
          refine pe_aload_n (j := 0) (by decide +kernel) rfl ?_
          refine pe_get (j := 7) (ci := 12) (n := 0) (by decide +kernel) (by decide +kernel) (md_o hc) rfl ?_
          refine pe_iconstv (n := 3) (v := 3) (by decide +kernel) (by decide +kernel) ?_
          refine pe_iload_n (j := 1) (by decide +kernel) rfl ?_
          refine mz_st148 (by decide +kernel) hc hI kz_3 (by omega) (by omega) (by simp only [MT]; omega) (fun A20 eA20 hIA20 => ?_)
          refine pe_aload_n (j := 0) (by decide +kernel) rfl ?_
          refine pe_get (j := 7) (ci := 12) (n := 0) (by decide +kernel) (by decide +kernel) (md_o hc) rfl ?_
          refine pe_iconstv (n := 4) (v := 4) (by decide +kernel) (by decide +kernel) ?_
          refine pe_iload_n (j := 2) (by decide +kernel) rfl ?_
          refine mz_st148 (by decide +kernel) hc hIA20 kz_4 (by omega) (by omega) (by simp only [MT]; omega) (fun A21 eA21 hIA21 => ?_)
          have htx22 : TX f f A A := TX_refl hpp0
          have htx23 := TX_set (TX_set htx22 eA20 (mlen_148 hI) (by decide) (fun _ => by omega)) eA21 (mlen_148 hIA20) (by decide) (fun h => absurd h (by decide))
          have hft24 := set3_ne eA20 eA21 (mlen_148 hI) (v := x1) (by omega)
          exact pe_vret (by decide +kernel) rfl ⟨A21, rfl, hIA21, (fun k n148 => (upa_fr eA21 n148).trans (upa_fr eA20 n148)), ⟨htx23, hft24, trivial⟩⟩
        · skip
          refine pe_aload_n (j := 0) (by decide +kernel) rfl ?_
          refine pe_get (j := 7) (ci := 12) (n := 0) (by decide +kernel) (by decide +kernel) (md_o hc) rfl ?_
          refine pe_iconstv (n := 3) (v := 3) (by decide +kernel) (by decide +kernel) ?_
          refine pz_iald (by decide +kernel) (md_a148 hc) (mlen_148 hI) kz_3 (by omega) (by omega) (fun v25 ev25 => ?_)
          rw [ev25.trans ev4.symm]
          clear ev25 v25
          refine pe_iload_n (j := 1) (by decide +kernel) rfl ?_
          refine pz_icmp_gt (off := 4) (t := 47) (by decide +kernel) (by decide) rfl rfl rfl (fun h26 => ?_) (fun h26 => ?_)
          · skip
            refine pe_aload_n (j := 0) (by decide +kernel) rfl ?_
            refine pe_get (j := 7) (ci := 12) (n := 0) (by decide +kernel) (by decide +kernel) (md_o hc) rfl ?_
            refine pe_iconstv (n := 3) (v := 3) (by decide +kernel) (by decide +kernel) ?_
            refine pe_iload_n (j := 1) (by decide +kernel) rfl ?_
            refine mz_st148 (by decide +kernel) hc hI kz_3 (by omega) (by omega) (by simp only [MT]; omega) (fun A27 eA27 hIA27 => ?_)
            refine pe_aload_n (j := 0) (by decide +kernel) rfl ?_
            refine pe_get (j := 7) (ci := 12) (n := 0) (by decide +kernel) (by decide +kernel) (md_o hc) rfl ?_
            refine pe_iconstv (n := 4) (v := 4) (by decide +kernel) (by decide +kernel) ?_
            refine pe_iload_n (j := 2) (by decide +kernel) rfl ?_
            refine mz_st148 (by decide +kernel) hc hIA27 kz_4 (by omega) (by omega) (by simp only [MT]; omega) (fun A28 eA28 hIA28 => ?_)
            have htx29 : TX f f A A := TX_refl hpp0
            have htx30 := TX_set (TX_set htx29 eA27 (mlen_148 hI) (by decide) (fun _ => by omega)) eA28 (mlen_148 hIA27) (by decide) (fun h => absurd h (by decide))
            have hft31 := set3_ne eA27 eA28 (mlen_148 hI) (v := x1) (by omega)
            exact pe_vret (by decide +kernel) rfl ⟨A28, rfl, hIA28, (fun k n148 => (upa_fr eA28 n148).trans (upa_fr eA27 n148)), ⟨htx30, hft31, trivial⟩⟩
          · skip
            have hft32 : fr (A 148) 3 ≠ 0 := by rw [(show fr (A 148) (3) = v4.toInt from congrArg Int32.toInt ev4.symm)]; omega
            have htx33 : TX f f A A := TX_refl hpp0
            exact pe_vret (by decide +kernel) rfl ⟨A, rfl, hI, (fun k n148 => rfl), ⟨htx33, hft32, trivial⟩⟩
set_option maxRecDepth 100000 in
set_option maxHeartbeats 8000000 in
theorem NM_210 {X : pm_X} {d : Nat} {wc : pm_W} {f : Nat → Int32} {A : Nat → List Int32} {x1 x2 : Int32} (hc : wc.length = 147) (hI : MI f A) (gx1 : (0 ≤ x1.toInt ∧ x1.toInt ≤ 2)) (gx2 : (8 ≤ x2.toInt ∧ x2.toInt ≤ 100)) (hxp0 : (x1.toInt + (-1) * x2.toInt) ≤ 0) (hpp0 : JJ f A) : pmE pg X pg_tyl pg_cl (d + 3) 210 0 (pm_ent (pm_max pg 210) [.ref 147, .int x1, .int x2]) [] (md wc f A) (fun q => ∃ (f' : Nat → Int32) (A' : Nat → List Int32) (r : Int32), q = (some (.int r), md wc f' A', 0, 0) ∧ MI f' A' ∧ (∀ k : Nat, k ≠ 3 → k ≠ 4 → k ≠ 5 → k ≠ 6 → k ≠ 7 → k ≠ 8 → f' k = f k) ∧ (∀ k : Nat, k ≠ 148 → A' k = A k) ∧ ((-1) * r.toInt + x1.toInt) ≤ 0 ∧ (r.toInt + (-1) * x2.toInt) ≤ 0 ∧ (((0 ≤ r.toInt ∧ r.toInt ≤ 100) ∧ TX f f' A A' ∧ TS f f' ∧ True))) := by
  show pmE pg X pg_tyl pg_cl (d + 3) 210 0 [.ref 147, .int x1, .int x2, pm_dead] [] (md wc f A) _
  refine pe_aload_n (j := 0) (by decide +kernel) rfl ?_
  refine pe_get (j := 112) (ci := 12) (n := 8) (by decide +kernel) (by decide +kernel) (md_o hc) rfl ?_
  have hr_f_8 := mf_8 hI
  refine pz_if_ne (off := 11) (t := 15) (by decide +kernel) (by decide) rfl rfl (fun h1 => ?_) (fun h1 => ?_)
  · skip
    refine pe_aload_n (j := 0) (by decide +kernel) rfl ?_
    have htx2 : TX f f A A := TX_refl hpp0
    refine pz_callV (j := 116) (mj := 209) (by decide +kernel) (cll_V (args := []) (n := 0) (by decide +kernel) rfl rfl (md_o hc) (by decide +kernel) (Nat.le_of_ble_eq_true rfl) (Nat.le_of_ble_eq_true rfl)) (NM_209 hc hI htx2.2.2.2.2) (fun q3a q3b q3c q3d hqq3 => ?_)
    obtain ⟨f4, A5, eq3, hIq3, hGq3, hFq3, kq3⟩ := hqq3
    cases eq3
    refine ⟨rfl, rfl, ?_⟩
    obtain ⟨hp6, hp7, hp8, kq3⟩ := kq3
    have htx9 := TX_trans htx2 hp6
    show pmE pg X pg_tyl pg_cl (d + 3) 210 19 [.ref 147, .int x1, .int x2, pm_dead] [] (md wc f4 A5) _
    refine pe_iload_n (j := 1) (by decide +kernel) rfl ?_
    exact pe_iret (by decide +kernel) rfl rfl ⟨f4, A5, x1, rfl, hIq3, (fun k n3 n4 n5 n6 n7 n8 => (hGq3 k n8)), (fun k n148 => (hFq3 k n148)), (by omega), (by omega), ⟨(by omega), htx9, hp7, trivial⟩⟩
  · skip
    refine pe_aload_n (j := 0) (by decide +kernel) rfl ?_
    refine pe_get (j := 93) (ci := 12) (n := 5) (by decide +kernel) (by decide +kernel) (md_o hc) rfl ?_
    have hr_f_5 := mf_5 hI
    refine pe_iconstv (n := 1) (v := 1) (by decide +kernel) (by decide +kernel) ?_
    refine pz_icmp_eq (off := 9) (t := 21) (by decide +kernel) (by decide) rfl rfl kz_1 (fun h10 => ?_) (fun h10 => ?_)
    · skip
      refine pe_aload_n (j := 0) (by decide +kernel) rfl ?_
      refine pe_get (j := 109) (ci := 12) (n := 6) (by decide +kernel) (by decide +kernel) (md_o hc) rfl ?_
      refine pe_istore_n (j := 3) (ls' := [.ref 147, .int x1, .int x2, .int (f 6)]) (by decide +kernel) (Nat.le_of_ble_eq_true rfl) rfl ?_
      refine pe_iload_n (j := 3) (by decide +kernel) rfl ?_
      refine pe_iload_n (j := 1) (by decide +kernel) rfl ?_
      refine pe_iload_n (j := 2) (by decide +kernel) rfl ?_
      refine pi_S (j := 119) (mj := 199) (by decide +kernel) (by decide +kernel) rfl ?_
      show pmE pg X pg_tyl pg_cl (d + 2) 199 0 [.int (f 6), .int x1, .int x2] [] (md wc f A) _
      refine pe_iload_n (j := 0) (by decide +kernel) rfl ?_
      refine pe_iload_n (j := 1) (by decide +kernel) rfl ?_
      have lw12 := zi_lo (f 6)
      have uw12 := zi_hi (f 6)
      refine pz_icmp_lt (off := 12) (t := 14) (by decide +kernel) (by decide) rfl rfl rfl (fun h11 => ?_) (fun h11 => ?_)
      · skip
        refine pe_iconstv (n := 0) (v := 0) (by decide +kernel) (by decide +kernel) ?_
        refine pe_iret (by decide +kernel) rfl rfl ⟨rfl, rfl, ?_⟩
        show pmE pg X pg_tyl pg_cl (d + 3) 210 32 [.ref 147, .int x1, .int x2, .int (f 6)] [.int 0] (md wc f A) _
        refine pz_if_ne (off := 12) (t := 44) (by decide +kernel) (by decide) rfl kz_0 (fun h13 => by omega) (fun h13 => ?_)
        refine pe_aload_n (j := 0) (by decide +kernel) rfl ?_
        refine pe_iconstv (n := 2) (v := 2) (by decide +kernel) (by decide +kernel) ?_
        refine pe_aload_n (j := 0) (by decide +kernel) rfl ?_
        refine pe_get (j := 90) (ci := 12) (n := 4) (by decide +kernel) (by decide +kernel) (md_o hc) rfl ?_
        have htx14 : TX f f A A := TX_refl hpp0
        refine pz_callV (j := 123) (mj := 211) (by decide +kernel) (cll_V (args := [.int (f 4), .int 2]) (n := 2) (by decide +kernel) rfl rfl (md_o hc) (by decide +kernel) (Nat.le_of_ble_eq_true rfl) (Nat.le_of_ble_eq_true rfl)) (NM_211 hc hI (by decide +kernel) htx14.2.2.2.2) (fun q15a q15b q15c q15d hqq15 => ?_)
        obtain ⟨A16, eq15, hIq15, hFq15, kq15⟩ := hqq15
        cases eq15
        refine ⟨rfl, rfl, ?_⟩
        obtain ⟨hp17, hp18, kq15⟩ := kq15
        have htx19 := TX_trans htx14 hp17
        show pmE pg X pg_tyl pg_cl (d + 3) 210 44 [.ref 147, .int x1, .int x2, .int (f 6)] [] (md wc f A16) _
        refine pe_aload_n (j := 0) (by decide +kernel) rfl ?_
        have hr_f_3 := mf_3 hIq15
        refine pz_callV (j := 127) (mj := 201) (by decide +kernel) (cll_V (args := []) (n := 0) (by decide +kernel) rfl rfl (md_o hc) (by decide +kernel) (Nat.le_of_ble_eq_true rfl) (Nat.le_of_ble_eq_true rfl)) (MM_201 hc hIq15) (fun q20a q20b q20c q20d hqq20 => ?_)
        obtain ⟨f21, eq20, hIq20, hGq20, hX0q20, kq20⟩ := hqq20
        cases eq20
        refine ⟨rfl, rfl, ?_⟩
        have hr_f21_5 := mf_5 hIq20
        have hr_f21_3 := mf_3 hIq20
        show pmE pg X pg_tyl pg_cl (d + 3) 210 48 [.ref 147, .int x1, .int x2, .int (f 6)] [] (md wc f21 A16) _
        have htx22 := TX_adv htx19 (by omega) ((hGq20 8 (by decide) (by decide) (by decide) (by decide) (by decide))) ((hGq20 9 (by decide) (by decide) (by decide) (by decide) (by decide))) (mf_5 hIq15).1
        have hts23 := TS_adv (by omega) ((hGq20 8 (by decide) (by decide) (by decide) (by decide) (by decide))) (by omega)
        refine pe_iload_n (j := 3) (by decide +kernel) rfl ?_
        refine pe_iload_n (j := 1) (by decide +kernel) rfl ?_
        refine pe_iload_n (j := 2) (by decide +kernel) rfl ?_
        refine pi_S (j := 119) (mj := 199) (by decide +kernel) (by decide +kernel) rfl ?_
        show pmE pg X pg_tyl pg_cl (d + 2) 199 0 [.int (f 6), .int x1, .int x2] [] (md wc f21 A16) _
        refine pe_iload_n (j := 0) (by decide +kernel) rfl ?_
        refine pe_iload_n (j := 1) (by decide +kernel) rfl ?_
        refine pz_icmp_lt (off := 12) (t := 14) (by decide +kernel) (by decide) rfl rfl rfl (fun h24 => ?_) (fun h24 => by omega)
        refine pe_iconstv (n := 0) (v := 0) (by decide +kernel) (by decide +kernel) ?_
        refine pe_iret (by decide +kernel) rfl rfl ⟨rfl, rfl, ?_⟩
        show pmE pg X pg_tyl pg_cl (d + 3) 210 54 [.ref 147, .int x1, .int x2, .int (f 6)] [.int 0] (md wc f21 A16) _
        refine pz_if_eq (off := 7) (t := 61) (by decide +kernel) (by decide) rfl kz_0 (fun h25 => ?_) (fun h25 => by omega)
        refine pe_iload_n (j := 1) (by decide +kernel) rfl ?_
        exact pe_iret (by decide +kernel) rfl rfl ⟨f21, A16, x1, rfl, hIq20, (fun k n3 n4 n5 n6 n7 n8 => (hGq20 k n3 n4 n5 n6 n7)), (fun k n148 => (hFq15 k n148)), (by omega), (by omega), ⟨(by omega), htx22, hts23, trivial⟩⟩
      · skip
        refine pe_iload_n (j := 0) (by decide +kernel) rfl ?_
        refine pe_iload_n (j := 2) (by decide +kernel) rfl ?_
        refine pz_icmp_gt (off := 7) (t := 14) (by decide +kernel) (by decide) rfl rfl rfl (fun h26 => ?_) (fun h26 => ?_)
        · skip
          refine pe_iconstv (n := 0) (v := 0) (by decide +kernel) (by decide +kernel) ?_
          refine pe_iret (by decide +kernel) rfl rfl ⟨rfl, rfl, ?_⟩
          show pmE pg X pg_tyl pg_cl (d + 3) 210 32 [.ref 147, .int x1, .int x2, .int (f 6)] [.int 0] (md wc f A) _
          refine pz_if_ne (off := 12) (t := 44) (by decide +kernel) (by decide) rfl kz_0 (fun h27 => by omega) (fun h27 => ?_)
          refine pe_aload_n (j := 0) (by decide +kernel) rfl ?_
          refine pe_iconstv (n := 2) (v := 2) (by decide +kernel) (by decide +kernel) ?_
          refine pe_aload_n (j := 0) (by decide +kernel) rfl ?_
          refine pe_get (j := 90) (ci := 12) (n := 4) (by decide +kernel) (by decide +kernel) (md_o hc) rfl ?_
          have htx28 : TX f f A A := TX_refl hpp0
          refine pz_callV (j := 123) (mj := 211) (by decide +kernel) (cll_V (args := [.int (f 4), .int 2]) (n := 2) (by decide +kernel) rfl rfl (md_o hc) (by decide +kernel) (Nat.le_of_ble_eq_true rfl) (Nat.le_of_ble_eq_true rfl)) (NM_211 hc hI (by decide +kernel) htx28.2.2.2.2) (fun q29a q29b q29c q29d hqq29 => ?_)
          obtain ⟨A30, eq29, hIq29, hFq29, kq29⟩ := hqq29
          cases eq29
          refine ⟨rfl, rfl, ?_⟩
          obtain ⟨hp31, hp32, kq29⟩ := kq29
          have htx33 := TX_trans htx28 hp31
          show pmE pg X pg_tyl pg_cl (d + 3) 210 44 [.ref 147, .int x1, .int x2, .int (f 6)] [] (md wc f A30) _
          refine pe_aload_n (j := 0) (by decide +kernel) rfl ?_
          have hr_f_3 := mf_3 hIq29
          refine pz_callV (j := 127) (mj := 201) (by decide +kernel) (cll_V (args := []) (n := 0) (by decide +kernel) rfl rfl (md_o hc) (by decide +kernel) (Nat.le_of_ble_eq_true rfl) (Nat.le_of_ble_eq_true rfl)) (MM_201 hc hIq29) (fun q34a q34b q34c q34d hqq34 => ?_)
          obtain ⟨f35, eq34, hIq34, hGq34, hX0q34, kq34⟩ := hqq34
          cases eq34
          refine ⟨rfl, rfl, ?_⟩
          have hr_f35_5 := mf_5 hIq34
          have hr_f35_3 := mf_3 hIq34
          show pmE pg X pg_tyl pg_cl (d + 3) 210 48 [.ref 147, .int x1, .int x2, .int (f 6)] [] (md wc f35 A30) _
          have htx36 := TX_adv htx33 (by omega) ((hGq34 8 (by decide) (by decide) (by decide) (by decide) (by decide))) ((hGq34 9 (by decide) (by decide) (by decide) (by decide) (by decide))) (mf_5 hIq29).1
          have hts37 := TS_adv (by omega) ((hGq34 8 (by decide) (by decide) (by decide) (by decide) (by decide))) (by omega)
          refine pe_iload_n (j := 3) (by decide +kernel) rfl ?_
          refine pe_iload_n (j := 1) (by decide +kernel) rfl ?_
          refine pe_iload_n (j := 2) (by decide +kernel) rfl ?_
          refine pi_S (j := 119) (mj := 199) (by decide +kernel) (by decide +kernel) rfl ?_
          show pmE pg X pg_tyl pg_cl (d + 2) 199 0 [.int (f 6), .int x1, .int x2] [] (md wc f35 A30) _
          refine pe_iload_n (j := 0) (by decide +kernel) rfl ?_
          refine pe_iload_n (j := 1) (by decide +kernel) rfl ?_
          refine pz_icmp_lt (off := 12) (t := 14) (by decide +kernel) (by decide) rfl rfl rfl (fun h38 => by omega) (fun h38 => ?_)
          refine pe_iload_n (j := 0) (by decide +kernel) rfl ?_
          refine pe_iload_n (j := 2) (by decide +kernel) rfl ?_
          refine pz_icmp_gt (off := 7) (t := 14) (by decide +kernel) (by decide) rfl rfl rfl (fun h39 => ?_) (fun h39 => ?_)
          · skip
            refine pe_iconstv (n := 0) (v := 0) (by decide +kernel) (by decide +kernel) ?_
            refine pe_iret (by decide +kernel) rfl rfl ⟨rfl, rfl, ?_⟩
            show pmE pg X pg_tyl pg_cl (d + 3) 210 54 [.ref 147, .int x1, .int x2, .int (f 6)] [.int 0] (md wc f35 A30) _
            refine pz_if_eq (off := 7) (t := 61) (by decide +kernel) (by decide) rfl kz_0 (fun h40 => ?_) (fun h40 => by omega)
            refine pe_iload_n (j := 1) (by decide +kernel) rfl ?_
            exact pe_iret (by decide +kernel) rfl rfl ⟨f35, A30, x1, rfl, hIq34, (fun k n3 n4 n5 n6 n7 n8 => (hGq34 k n3 n4 n5 n6 n7)), (fun k n148 => (hFq29 k n148)), (by omega), (by omega), ⟨(by omega), htx36, hts37, trivial⟩⟩
          · skip
            refine pe_iconstv (n := 1) (v := 1) (by decide +kernel) (by decide +kernel) ?_
            refine pe_goto (off := 4) (t := 15) (by decide +kernel) (by decide) rfl ?_
            refine pe_iret (by decide +kernel) rfl rfl ⟨rfl, rfl, ?_⟩
            show pmE pg X pg_tyl pg_cl (d + 3) 210 54 [.ref 147, .int x1, .int x2, .int (f 6)] [.int 1] (md wc f35 A30) _
            refine pz_if_eq (off := 7) (t := 61) (by decide +kernel) (by decide) rfl kz_1 (fun h41 => by omega) (fun h41 => ?_)
            refine pe_iload_n (j := 3) (by decide +kernel) rfl ?_
            refine pe_goto (off := 4) (t := 62) (by decide +kernel) (by decide) rfl ?_
            exact pe_iret (by decide +kernel) rfl rfl ⟨f35, A30, (f 6), rfl, hIq34, (fun k n3 n4 n5 n6 n7 n8 => (hGq34 k n3 n4 n5 n6 n7)), (fun k n148 => (hFq29 k n148)), (by omega), (by omega), ⟨(by omega), htx36, hts37, trivial⟩⟩
        · skip
          refine pe_iconstv (n := 1) (v := 1) (by decide +kernel) (by decide +kernel) ?_
          refine pe_goto (off := 4) (t := 15) (by decide +kernel) (by decide) rfl ?_
          refine pe_iret (by decide +kernel) rfl rfl ⟨rfl, rfl, ?_⟩
          show pmE pg X pg_tyl pg_cl (d + 3) 210 32 [.ref 147, .int x1, .int x2, .int (f 6)] [.int 1] (md wc f A) _
          refine pz_if_ne (off := 12) (t := 44) (by decide +kernel) (by decide) rfl kz_1 (fun h42 => ?_) (fun h42 => by omega)
          refine pe_aload_n (j := 0) (by decide +kernel) rfl ?_
          have hr_f_3 := mf_3 hI
          refine pz_callV (j := 127) (mj := 201) (by decide +kernel) (cll_V (args := []) (n := 0) (by decide +kernel) rfl rfl (md_o hc) (by decide +kernel) (Nat.le_of_ble_eq_true rfl) (Nat.le_of_ble_eq_true rfl)) (MM_201 hc hI) (fun q43a q43b q43c q43d hqq43 => ?_)
          obtain ⟨f44, eq43, hIq43, hGq43, hX0q43, kq43⟩ := hqq43
          cases eq43
          refine ⟨rfl, rfl, ?_⟩
          have hr_f44_5 := mf_5 hIq43
          have hr_f44_3 := mf_3 hIq43
          show pmE pg X pg_tyl pg_cl (d + 3) 210 48 [.ref 147, .int x1, .int x2, .int (f 6)] [] (md wc f44 A) _
          have htx45 : TX f f A A := TX_refl hpp0
          have htx46 := TX_adv htx45 (by omega) ((hGq43 8 (by decide) (by decide) (by decide) (by decide) (by decide))) ((hGq43 9 (by decide) (by decide) (by decide) (by decide) (by decide))) (mf_5 hI).1
          have hts47 := TS_adv (by omega) ((hGq43 8 (by decide) (by decide) (by decide) (by decide) (by decide))) (by omega)
          refine pe_iload_n (j := 3) (by decide +kernel) rfl ?_
          refine pe_iload_n (j := 1) (by decide +kernel) rfl ?_
          refine pe_iload_n (j := 2) (by decide +kernel) rfl ?_
          refine pi_S (j := 119) (mj := 199) (by decide +kernel) (by decide +kernel) rfl ?_
          show pmE pg X pg_tyl pg_cl (d + 2) 199 0 [.int (f 6), .int x1, .int x2] [] (md wc f44 A) _
          refine pe_iload_n (j := 0) (by decide +kernel) rfl ?_
          refine pe_iload_n (j := 1) (by decide +kernel) rfl ?_
          refine pz_icmp_lt (off := 12) (t := 14) (by decide +kernel) (by decide) rfl rfl rfl (fun h48 => by omega) (fun h48 => ?_)
          refine pe_iload_n (j := 0) (by decide +kernel) rfl ?_
          refine pe_iload_n (j := 2) (by decide +kernel) rfl ?_
          refine pz_icmp_gt (off := 7) (t := 14) (by decide +kernel) (by decide) rfl rfl rfl (fun h49 => ?_) (fun h49 => ?_)
          · skip
            refine pe_iconstv (n := 0) (v := 0) (by decide +kernel) (by decide +kernel) ?_
            refine pe_iret (by decide +kernel) rfl rfl ⟨rfl, rfl, ?_⟩
            show pmE pg X pg_tyl pg_cl (d + 3) 210 54 [.ref 147, .int x1, .int x2, .int (f 6)] [.int 0] (md wc f44 A) _
            refine pz_if_eq (off := 7) (t := 61) (by decide +kernel) (by decide) rfl kz_0 (fun h50 => ?_) (fun h50 => by omega)
            refine pe_iload_n (j := 1) (by decide +kernel) rfl ?_
            exact pe_iret (by decide +kernel) rfl rfl ⟨f44, A, x1, rfl, hIq43, (fun k n3 n4 n5 n6 n7 n8 => (hGq43 k n3 n4 n5 n6 n7)), (fun k n148 => rfl), (by omega), (by omega), ⟨(by omega), htx46, hts47, trivial⟩⟩
          · skip
            refine pe_iconstv (n := 1) (v := 1) (by decide +kernel) (by decide +kernel) ?_
            refine pe_goto (off := 4) (t := 15) (by decide +kernel) (by decide) rfl ?_
            refine pe_iret (by decide +kernel) rfl rfl ⟨rfl, rfl, ?_⟩
            show pmE pg X pg_tyl pg_cl (d + 3) 210 54 [.ref 147, .int x1, .int x2, .int (f 6)] [.int 1] (md wc f44 A) _
            refine pz_if_eq (off := 7) (t := 61) (by decide +kernel) (by decide) rfl kz_1 (fun h51 => by omega) (fun h51 => ?_)
            refine pe_iload_n (j := 3) (by decide +kernel) rfl ?_
            refine pe_goto (off := 4) (t := 62) (by decide +kernel) (by decide) rfl ?_
            exact pe_iret (by decide +kernel) rfl rfl ⟨f44, A, (f 6), rfl, hIq43, (fun k n3 n4 n5 n6 n7 n8 => (hGq43 k n3 n4 n5 n6 n7)), (fun k n148 => rfl), (by omega), (by omega), ⟨(by omega), htx46, hts47, trivial⟩⟩
    · skip
      refine pe_aload_n (j := 0) (by decide +kernel) rfl ?_
      have htx52 : TX f f A A := TX_refl hpp0
      refine pz_callV (j := 116) (mj := 209) (by decide +kernel) (cll_V (args := []) (n := 0) (by decide +kernel) rfl rfl (md_o hc) (by decide +kernel) (Nat.le_of_ble_eq_true rfl) (Nat.le_of_ble_eq_true rfl)) (NM_209 hc hI htx52.2.2.2.2) (fun q53a q53b q53c q53d hqq53 => ?_)
      obtain ⟨f54, A55, eq53, hIq53, hGq53, hFq53, kq53⟩ := hqq53
      cases eq53
      refine ⟨rfl, rfl, ?_⟩
      obtain ⟨hp56, hp57, hp58, kq53⟩ := kq53
      have htx59 := TX_trans htx52 hp56
      show pmE pg X pg_tyl pg_cl (d + 3) 210 19 [.ref 147, .int x1, .int x2, pm_dead] [] (md wc f54 A55) _
      refine pe_iload_n (j := 1) (by decide +kernel) rfl ?_
      exact pe_iret (by decide +kernel) rfl rfl ⟨f54, A55, x1, rfl, hIq53, (fun k n3 n4 n5 n6 n7 n8 => (hGq53 k n8)), (fun k n148 => (hFq53 k n148)), (by omega), (by omega), ⟨(by omega), htx59, hp57, trivial⟩⟩
end
section
set_option maxRecDepth 100000 in
set_option maxHeartbeats 8000000 in
theorem NM_208 {X : pm_X} {d : Nat} {wc : pm_W} {f : Nat → Int32} {A : Nat → List Int32} {x1 x2 : Int32} (hc : wc.length = 147) (hI : MI f A) (gx1 : (1 ≤ x1.toInt ∧ x1.toInt ≤ 11)) (gx2 : (7 ≤ x2.toInt ∧ x2.toInt ≤ 16)) (hpp0 : JJ f A) : pmE pg X pg_tyl pg_cl (d + 3) 208 0 (pm_ent (pm_max pg 208) [.ref 147, .int x1, .int x2]) [] (md wc f A) (fun q => ∃ (f' : Nat → Int32) (A' : Nat → List Int32) (r : Int32), q = (some (.int r), md wc f' A', 0, 0) ∧ MI f' A' ∧ (∀ k : Nat, k ≠ 3 → k ≠ 4 → k ≠ 5 → k ≠ 6 → k ≠ 7 → k ≠ 8 → f' k = f k) ∧ (∀ k : Nat, k ≠ 148 → A' k = A k) ∧ (((0 ≤ r.toInt ∧ r.toInt ≤ 16) ∧ TX f f' A A' ∧ TS f f' ∧ True))) := by
  show pmE pg X pg_tyl pg_cl (d + 3) 208 0 [.ref 147, .int x1, .int x2, pm_dead] [] (md wc f A) _
  refine pe_aload_n (j := 0) (by decide +kernel) rfl ?_
  refine pe_get (j := 112) (ci := 12) (n := 8) (by decide +kernel) (by decide +kernel) (md_o hc) rfl ?_
  have hr_f_8 := mf_8 hI
  refine pz_if_ne (off := 23) (t := 27) (by decide +kernel) (by decide) rfl rfl (fun h1 => ?_) (fun h1 => ?_)
  · skip
    refine pe_aload_n (j := 0) (by decide +kernel) rfl ?_
    have htx2 : TX f f A A := TX_refl hpp0
    refine pz_callV (j := 116) (mj := 209) (by decide +kernel) (cll_V (args := []) (n := 0) (by decide +kernel) rfl rfl (md_o hc) (by decide +kernel) (Nat.le_of_ble_eq_true rfl) (Nat.le_of_ble_eq_true rfl)) (NM_209 hc hI htx2.2.2.2.2) (fun q3a q3b q3c q3d hqq3 => ?_)
    obtain ⟨f4, A5, eq3, hIq3, hGq3, hFq3, kq3⟩ := hqq3
    cases eq3
    refine ⟨rfl, rfl, ?_⟩
    obtain ⟨hp6, hp7, hp8, kq3⟩ := kq3
    have htx9 := TX_trans htx2 hp6
    show pmE pg X pg_tyl pg_cl (d + 3) 208 31 [.ref 147, .int x1, .int x2, pm_dead] [] (md wc f4 A5) _
    refine pe_iconstv (n := 0) (v := 0) (by decide +kernel) (by decide +kernel) ?_
    exact pe_iret (by decide +kernel) rfl rfl ⟨f4, A5, 0, rfl, hIq3, (fun k n3 n4 n5 n6 n7 n8 => (hGq3 k n8)), (fun k n148 => (hFq3 k n148)), ⟨(by decide +kernel), htx9, hp7, trivial⟩⟩
  · skip
    refine pe_aload_n (j := 0) (by decide +kernel) rfl ?_
    refine pe_get (j := 93) (ci := 12) (n := 5) (by decide +kernel) (by decide +kernel) (md_o hc) rfl ?_
    have hr_f_5 := mf_5 hI
    refine pe_iconstv (n := 3) (v := 3) (by decide +kernel) (by decide +kernel) ?_
    refine pz_icmp_ne (off := 15) (t := 27) (by decide +kernel) (by decide) rfl rfl kz_3 (fun h10 => ?_) (fun h10 => ?_)
    · skip
      refine pe_aload_n (j := 0) (by decide +kernel) rfl ?_
      have htx11 : TX f f A A := TX_refl hpp0
      refine pz_callV (j := 116) (mj := 209) (by decide +kernel) (cll_V (args := []) (n := 0) (by decide +kernel) rfl rfl (md_o hc) (by decide +kernel) (Nat.le_of_ble_eq_true rfl) (Nat.le_of_ble_eq_true rfl)) (NM_209 hc hI htx11.2.2.2.2) (fun q12a q12b q12c q12d hqq12 => ?_)
      obtain ⟨f13, A14, eq12, hIq12, hGq12, hFq12, kq12⟩ := hqq12
      cases eq12
      refine ⟨rfl, rfl, ?_⟩
      obtain ⟨hp15, hp16, hp17, kq12⟩ := kq12
      have htx18 := TX_trans htx11 hp15
      show pmE pg X pg_tyl pg_cl (d + 3) 208 31 [.ref 147, .int x1, .int x2, pm_dead] [] (md wc f13 A14) _
      refine pe_iconstv (n := 0) (v := 0) (by decide +kernel) (by decide +kernel) ?_
      exact pe_iret (by decide +kernel) rfl rfl ⟨f13, A14, 0, rfl, hIq12, (fun k n3 n4 n5 n6 n7 n8 => (hGq12 k n8)), (fun k n148 => (hFq12 k n148)), ⟨(by decide +kernel), htx18, hp16, trivial⟩⟩
    · skip
      refine pe_aload_n (j := 0) (by decide +kernel) rfl ?_
      refine pe_get (j := 103) (ci := 12) (n := 7) (by decide +kernel) (by decide +kernel) (md_o hc) rfl ?_
      refine pe_iload_n (j := 1) (by decide +kernel) rfl ?_
      refine pe_iload_n (j := 2) (by decide +kernel) rfl ?_
      refine pi_S (j := 119) (mj := 199) (by decide +kernel) (by decide +kernel) rfl ?_
      show pmE pg X pg_tyl pg_cl (d + 2) 199 0 [.int (f 7), .int x1, .int x2] [] (md wc f A) _
      refine pe_iload_n (j := 0) (by decide +kernel) rfl ?_
      refine pe_iload_n (j := 1) (by decide +kernel) rfl ?_
      have lw20 := zi_lo (f 7)
      have uw20 := zi_hi (f 7)
      refine pz_icmp_lt (off := 12) (t := 14) (by decide +kernel) (by decide) rfl rfl rfl (fun h19 => ?_) (fun h19 => ?_)
      · skip
        refine pe_iconstv (n := 0) (v := 0) (by decide +kernel) (by decide +kernel) ?_
        refine pe_iret (by decide +kernel) rfl rfl ⟨rfl, rfl, ?_⟩
        show pmE pg X pg_tyl pg_cl (d + 3) 208 24 [.ref 147, .int x1, .int x2, pm_dead] [.int 0] (md wc f A) _
        refine pz_if_ne (off := 9) (t := 33) (by decide +kernel) (by decide) rfl kz_0 (fun h21 => by omega) (fun h21 => ?_)
        refine pe_aload_n (j := 0) (by decide +kernel) rfl ?_
        have htx22 : TX f f A A := TX_refl hpp0
        refine pz_callV (j := 116) (mj := 209) (by decide +kernel) (cll_V (args := []) (n := 0) (by decide +kernel) rfl rfl (md_o hc) (by decide +kernel) (Nat.le_of_ble_eq_true rfl) (Nat.le_of_ble_eq_true rfl)) (NM_209 hc hI htx22.2.2.2.2) (fun q23a q23b q23c q23d hqq23 => ?_)
        obtain ⟨f24, A25, eq23, hIq23, hGq23, hFq23, kq23⟩ := hqq23
        cases eq23
        refine ⟨rfl, rfl, ?_⟩
        obtain ⟨hp26, hp27, hp28, kq23⟩ := kq23
        have htx29 := TX_trans htx22 hp26
        show pmE pg X pg_tyl pg_cl (d + 3) 208 31 [.ref 147, .int x1, .int x2, pm_dead] [] (md wc f24 A25) _
        refine pe_iconstv (n := 0) (v := 0) (by decide +kernel) (by decide +kernel) ?_
        exact pe_iret (by decide +kernel) rfl rfl ⟨f24, A25, 0, rfl, hIq23, (fun k n3 n4 n5 n6 n7 n8 => (hGq23 k n8)), (fun k n148 => (hFq23 k n148)), ⟨(by decide +kernel), htx29, hp27, trivial⟩⟩
      · skip
        refine pe_iload_n (j := 0) (by decide +kernel) rfl ?_
        refine pe_iload_n (j := 2) (by decide +kernel) rfl ?_
        refine pz_icmp_gt (off := 7) (t := 14) (by decide +kernel) (by decide) rfl rfl rfl (fun h30 => ?_) (fun h30 => ?_)
        · skip
          refine pe_iconstv (n := 0) (v := 0) (by decide +kernel) (by decide +kernel) ?_
          refine pe_iret (by decide +kernel) rfl rfl ⟨rfl, rfl, ?_⟩
          show pmE pg X pg_tyl pg_cl (d + 3) 208 24 [.ref 147, .int x1, .int x2, pm_dead] [.int 0] (md wc f A) _
          refine pz_if_ne (off := 9) (t := 33) (by decide +kernel) (by decide) rfl kz_0 (fun h31 => by omega) (fun h31 => ?_)
          refine pe_aload_n (j := 0) (by decide +kernel) rfl ?_
          have htx32 : TX f f A A := TX_refl hpp0
          refine pz_callV (j := 116) (mj := 209) (by decide +kernel) (cll_V (args := []) (n := 0) (by decide +kernel) rfl rfl (md_o hc) (by decide +kernel) (Nat.le_of_ble_eq_true rfl) (Nat.le_of_ble_eq_true rfl)) (NM_209 hc hI htx32.2.2.2.2) (fun q33a q33b q33c q33d hqq33 => ?_)
          obtain ⟨f34, A35, eq33, hIq33, hGq33, hFq33, kq33⟩ := hqq33
          cases eq33
          refine ⟨rfl, rfl, ?_⟩
          obtain ⟨hp36, hp37, hp38, kq33⟩ := kq33
          have htx39 := TX_trans htx32 hp36
          show pmE pg X pg_tyl pg_cl (d + 3) 208 31 [.ref 147, .int x1, .int x2, pm_dead] [] (md wc f34 A35) _
          refine pe_iconstv (n := 0) (v := 0) (by decide +kernel) (by decide +kernel) ?_
          exact pe_iret (by decide +kernel) rfl rfl ⟨f34, A35, 0, rfl, hIq33, (fun k n3 n4 n5 n6 n7 n8 => (hGq33 k n8)), (fun k n148 => (hFq33 k n148)), ⟨(by decide +kernel), htx39, hp37, trivial⟩⟩
        · skip
          refine pe_iconstv (n := 1) (v := 1) (by decide +kernel) (by decide +kernel) ?_
          refine pe_goto (off := 4) (t := 15) (by decide +kernel) (by decide) rfl ?_
          refine pe_iret (by decide +kernel) rfl rfl ⟨rfl, rfl, ?_⟩
          show pmE pg X pg_tyl pg_cl (d + 3) 208 24 [.ref 147, .int x1, .int x2, pm_dead] [.int 1] (md wc f A) _
          refine pz_if_ne (off := 9) (t := 33) (by decide +kernel) (by decide) rfl kz_1 (fun h40 => ?_) (fun h40 => by omega)
          refine pe_aload_n (j := 0) (by decide +kernel) rfl ?_
          refine pe_get (j := 103) (ci := 12) (n := 7) (by decide +kernel) (by decide +kernel) (md_o hc) rfl ?_
          refine pe_istore_n (j := 3) (ls' := [.ref 147, .int x1, .int x2, .int (f 7)]) (by decide +kernel) (Nat.le_of_ble_eq_true rfl) rfl ?_
          refine pe_aload_n (j := 0) (by decide +kernel) rfl ?_
          have hr_f_3 := mf_3 hI
          refine pz_callV (j := 127) (mj := 201) (by decide +kernel) (cll_V (args := []) (n := 0) (by decide +kernel) rfl rfl (md_o hc) (by decide +kernel) (Nat.le_of_ble_eq_true rfl) (Nat.le_of_ble_eq_true rfl)) (MM_201 hc hI) (fun q41a q41b q41c q41d hqq41 => ?_)
          obtain ⟨f42, eq41, hIq41, hGq41, hX0q41, kq41⟩ := hqq41
          cases eq41
          refine ⟨rfl, rfl, ?_⟩
          have hr_f42_5 := mf_5 hIq41
          have hr_f42_3 := mf_3 hIq41
          show pmE pg X pg_tyl pg_cl (d + 3) 208 42 [.ref 147, .int x1, .int x2, .int (f 7)] [] (md wc f42 A) _
          have htx43 : TX f f A A := TX_refl hpp0
          have htx44 := TX_adv htx43 (by omega) ((hGq41 8 (by decide) (by decide) (by decide) (by decide) (by decide))) ((hGq41 9 (by decide) (by decide) (by decide) (by decide) (by decide))) (mf_5 hI).1
          have hts45 := TS_adv (by omega) ((hGq41 8 (by decide) (by decide) (by decide) (by decide) (by decide))) (by omega)
          refine pe_iload_n (j := 3) (by decide +kernel) rfl ?_
          exact pe_iret (by decide +kernel) rfl rfl ⟨f42, A, (f 7), rfl, hIq41, (fun k n3 n4 n5 n6 n7 n8 => (hGq41 k n3 n4 n5 n6 n7)), (fun k n148 => rfl), ⟨(by omega), htx44, hts45, trivial⟩⟩
set_option maxRecDepth 100000 in
set_option maxHeartbeats 8000000 in
theorem NM_214 {X : pm_X} {d : Nat} {wc : pm_W} {f : Nat → Int32} {A : Nat → List Int32} (hc : wc.length = 147) (hI : MI f A) (hpp0 : JJ f A) : pmE pg X pg_tyl pg_cl (d + 3) 214 0 (pm_ent (pm_max pg 214) [.ref 147]) [] (md wc f A) (fun q => ∃ (f' : Nat → Int32) (A' : Nat → List Int32), q = (none, md wc f' A', 0, 0) ∧ MI f' A' ∧ (∀ k : Nat, k ≠ 3 → k ≠ 4 → k ≠ 5 → k ≠ 6 → k ≠ 7 → k ≠ 8 → f' k = f k) ∧ (∀ k : Nat, k ≠ 148 → A' k = A k) ∧ ((TX f f' A A' ∧ True))) := by
  show pmE pg X pg_tyl pg_cl (d + 3) 214 0 [.ref 147] [] (md wc f A) _
  refine pe_aload_n (j := 0) (by decide +kernel) rfl ?_
  refine pe_get (j := 112) (ci := 12) (n := 8) (by decide +kernel) (by decide +kernel) (md_o hc) rfl ?_
  have hr_f_8 := mf_8 hI
  refine pz_if_ne (off := 18) (t := 22) (by decide +kernel) (by decide) rfl rfl (fun h1 => ?_) (fun h1 => ?_)
  · skip
    refine pe_aload_n (j := 0) (by decide +kernel) rfl ?_
    have htx2 : TX f f A A := TX_refl hpp0
    refine pz_callV (j := 116) (mj := 209) (by decide +kernel) (cll_V (args := []) (n := 0) (by decide +kernel) rfl rfl (md_o hc) (by decide +kernel) (Nat.le_of_ble_eq_true rfl) (Nat.le_of_ble_eq_true rfl)) (NM_209 hc hI htx2.2.2.2.2) (fun q3a q3b q3c q3d hqq3 => ?_)
    obtain ⟨f4, A5, eq3, hIq3, hGq3, hFq3, kq3⟩ := hqq3
    cases eq3
    refine ⟨rfl, rfl, ?_⟩
    obtain ⟨hp6, hp7, hp8, kq3⟩ := kq3
    have htx9 := TX_trans htx2 hp6
    show pmE pg X pg_tyl pg_cl (d + 3) 214 26 [.ref 147] [] (md wc f4 A5) _
    exact pe_vret (by decide +kernel) rfl ⟨f4, A5, rfl, hIq3, (fun k n3 n4 n5 n6 n7 n8 => (hGq3 k n8)), (fun k n148 => (hFq3 k n148)), ⟨htx9, trivial⟩⟩
  · skip
    refine pe_aload_n (j := 0) (by decide +kernel) rfl ?_
    refine pe_get (j := 93) (ci := 12) (n := 5) (by decide +kernel) (by decide +kernel) (md_o hc) rfl ?_
    have hr_f_5 := mf_5 hI
    refine pe_iconstv (n := 2) (v := 2) (by decide +kernel) (by decide +kernel) ?_
    refine pz_icmp_ne (off := 10) (t := 22) (by decide +kernel) (by decide) rfl rfl kz_2 (fun h10 => ?_) (fun h10 => ?_)
    · skip
      refine pe_aload_n (j := 0) (by decide +kernel) rfl ?_
      have htx11 : TX f f A A := TX_refl hpp0
      refine pz_callV (j := 116) (mj := 209) (by decide +kernel) (cll_V (args := []) (n := 0) (by decide +kernel) rfl rfl (md_o hc) (by decide +kernel) (Nat.le_of_ble_eq_true rfl) (Nat.le_of_ble_eq_true rfl)) (NM_209 hc hI htx11.2.2.2.2) (fun q12a q12b q12c q12d hqq12 => ?_)
      obtain ⟨f13, A14, eq12, hIq12, hGq12, hFq12, kq12⟩ := hqq12
      cases eq12
      refine ⟨rfl, rfl, ?_⟩
      obtain ⟨hp15, hp16, hp17, kq12⟩ := kq12
      have htx18 := TX_trans htx11 hp15
      show pmE pg X pg_tyl pg_cl (d + 3) 214 26 [.ref 147] [] (md wc f13 A14) _
      exact pe_vret (by decide +kernel) rfl ⟨f13, A14, rfl, hIq12, (fun k n3 n4 n5 n6 n7 n8 => (hGq12 k n8)), (fun k n148 => (hFq12 k n148)), ⟨htx18, trivial⟩⟩
    · skip
      refine pe_aload_n (j := 0) (by decide +kernel) rfl ?_
      have hr_f_3 := mf_3 hI
      refine pz_callV (j := 127) (mj := 201) (by decide +kernel) (cll_V (args := []) (n := 0) (by decide +kernel) rfl rfl (md_o hc) (by decide +kernel) (Nat.le_of_ble_eq_true rfl) (Nat.le_of_ble_eq_true rfl)) (MM_201 hc hI) (fun q19a q19b q19c q19d hqq19 => ?_)
      obtain ⟨f20, eq19, hIq19, hGq19, hX0q19, kq19⟩ := hqq19
      cases eq19
      refine ⟨rfl, rfl, ?_⟩
      have hr_f20_5 := mf_5 hIq19
      have hr_f20_3 := mf_3 hIq19
      show pmE pg X pg_tyl pg_cl (d + 3) 214 19 [.ref 147] [] (md wc f20 A) _
      have htx21 : TX f f A A := TX_refl hpp0
      have htx22 := TX_adv htx21 (by omega) ((hGq19 8 (by decide) (by decide) (by decide) (by decide) (by decide))) ((hGq19 9 (by decide) (by decide) (by decide) (by decide) (by decide))) (mf_5 hI).1
      have hts23 := TS_adv (by omega) ((hGq19 8 (by decide) (by decide) (by decide) (by decide) (by decide))) (by omega)
      refine pe_goto (off := 7) (t := 26) (by decide +kernel) (by decide) rfl ?_
      exact pe_vret (by decide +kernel) rfl ⟨f20, A, rfl, hIq19, (fun k n3 n4 n5 n6 n7 n8 => (hGq19 k n3 n4 n5 n6 n7)), (fun k n148 => rfl), ⟨htx22, trivial⟩⟩
set_option maxRecDepth 100000 in
set_option maxHeartbeats 8000000 in
theorem NM_212 {X : pm_X} {d : Nat} {wc : pm_W} {f : Nat → Int32} {A : Nat → List Int32} {x1 : Int32} (hc : wc.length = 147) (hI : MI f A) (hpp0 : JJ f A) : pmE pg X pg_tyl pg_cl (d + 4) 212 0 (pm_ent (pm_max pg 212) [.ref 147, .int x1]) [] (md wc f A) (fun q => ∃ (f' : Nat → Int32) (A' : Nat → List Int32) (r : Int32), q = (some (.int r), md wc f' A', 0, 0) ∧ MI f' A' ∧ (∀ k : Nat, k ≠ 3 → k ≠ 4 → k ≠ 5 → k ≠ 6 → k ≠ 7 → k ≠ 8 → k ≠ 9 → f' k = f k) ∧ (∀ k : Nat, k ≠ 148 → A' k = A k) ∧ (((0 ≤ r.toInt ∧ r.toInt ≤ 8) ∧ TX f f' A A' ∧ r.toInt ≤ (f' 9).toInt ∧ True))) := by
  show pmE pg X pg_tyl pg_cl (d + 4) 212 0 [.ref 147, .int x1, pm_dead] [] (md wc f A) _
  refine pe_aload_n (j := 0) (by decide +kernel) rfl ?_
  refine pe_get (j := 93) (ci := 12) (n := 5) (by decide +kernel) (by decide +kernel) (md_o hc) rfl ?_
  have hr_f_5 := mf_5 hI
  refine pe_iconstv (n := 1) (v := 1) (by decide +kernel) (by decide +kernel) ?_
  refine pz_icmp_ne (off := 20) (t := 25) (by decide +kernel) (by decide) rfl rfl kz_1 (fun h1 => ?_) (fun h1 => ?_)
  · skip
    refine pe_aload_n (j := 0) (by decide +kernel) rfl ?_
    refine pe_iconstv (n := 0) (v := 0) (by decide +kernel) (by decide +kernel) ?_
    refine pe_bipushv (n := 8) (v := 8) (by decide +kernel) (by decide +kernel) ?_
    have hl2 := kz_0
    have hl3 := kz_8
    have htx4 : TX f f A A := TX_refl hpp0
    refine pz_callV (j := 130) (mj := 210) (by decide +kernel) (cll_V (args := [.int 8, .int 0]) (n := 2) (by decide +kernel) rfl rfl (md_o hc) (by decide +kernel) (Nat.le_of_ble_eq_true rfl) (Nat.le_of_ble_eq_true rfl)) (NM_210 hc hI (by decide +kernel) (by decide +kernel) (by omega) htx4.2.2.2.2) (fun q5a q5b q5c q5d hqq5 => ?_)
    obtain ⟨f6, A7, rq5, eq5, hIq5, hGq5, hFq5, hX0q5, hX1q5, kq5⟩ := hqq5
    cases eq5
    refine ⟨rfl, rfl, ?_⟩
    obtain ⟨kfq5, kq5⟩ := kq5
    obtain ⟨hp8, hp9, kq5⟩ := kq5
    have htx10 := TX_trans htx4 hp8
    show pmE pg X pg_tyl pg_cl (d + 4) 212 32 [.ref 147, .int x1, pm_dead] [.int rq5] (md wc f6 A7) _
    refine pe_istore_n (j := 2) (ls' := [.ref 147, .int x1, .int rq5]) (by decide +kernel) (Nat.le_of_ble_eq_true rfl) rfl ?_
    refine pe_aload_n (j := 0) (by decide +kernel) rfl ?_
    refine pe_iload_n (j := 2) (by decide +kernel) rfl ?_
    refine pe_aload_n (j := 0) (by decide +kernel) rfl ?_
    refine pe_get (j := 134) (ci := 12) (n := 9) (by decide +kernel) (by decide +kernel) (md_o hc) rfl ?_
    refine pe_top (v := (f 9)) ((hGq5 9 (by decide) (by decide) (by decide) (by decide) (by decide) (by decide))) ?_
    have lw12 := zi_lo (f 9)
    have uw12 := zi_hi (f 9)
    refine pz_icmp_le (off := 7) (t := 46) (by decide +kernel) (by decide) rfl rfl rfl (fun h11 => ?_) (fun h11 => ?_)
    · skip
      refine pe_aload_n (j := 0) (by decide +kernel) rfl ?_
      refine pe_get (j := 134) (ci := 12) (n := 9) (by decide +kernel) (by decide +kernel) (md_o hc) rfl ?_
      refine pe_top (v := (f 9)) ((hGq5 9 (by decide) (by decide) (by decide) (by decide) (by decide) (by decide))) ?_
      refine mz_put9 (jj := 134) (by decide +kernel) (by decide +kernel) hc hIq5 (fun f13 ef13 hIf13 => ?_)
      have hg914 : (f6 9).toInt ≤ (f13 9).toInt := by rw [upf_at ef13, show f6 9 = (f 9) from (hGq5 9 (by decide) (by decide) (by decide) (by decide) (by decide) (by decide))]; omega
      have hge15 : rq5.toInt ≤ (f13 9).toInt := by rw [upf_at ef13]; omega
      refine pe_iload_n (j := 2) (by decide +kernel) rfl ?_
      have htx16 := TX_fr (f2 := f13) (A2 := A7) htx10 (upf_fr ef13 (by decide)) (upf_fr ef13 (by decide)) (upf_fr ef13 (by decide)) hg914 (rfl)
      have hts17 := TS_w hp9 (Int.le_of_eq (ms_eq (upf_fr ef13 (by decide)) (upf_fr ef13 (by decide)) (upf_fr ef13 (by decide))).symm)
      exact pe_iret (by decide +kernel) rfl rfl ⟨f13, A7, rq5, rfl, hIf13, (fun k n3 n4 n5 n6 n7 n8 n9 => (upf_fr ef13 n9).trans ((hGq5 k n3 n4 n5 n6 n7 n8))), (fun k n148 => (hFq5 k n148)), ⟨(by omega), htx16, hge15, trivial⟩⟩
    · skip
      refine pe_iload_n (j := 2) (by decide +kernel) rfl ?_
      refine pe_goto (off := 7) (t := 50) (by decide +kernel) (by decide) rfl ?_
      refine mz_put9 (jj := 134) (by decide +kernel) (by decide +kernel) hc hIq5 (fun f18 ef18 hIf18 => ?_)
      have hg919 : (f6 9).toInt ≤ (f18 9).toInt := by rw [upf_at ef18, show f6 9 = (f 9) from (hGq5 9 (by decide) (by decide) (by decide) (by decide) (by decide) (by decide))]; omega
      have hge20 : rq5.toInt ≤ (f18 9).toInt := by rw [upf_at ef18]; omega
      refine pe_iload_n (j := 2) (by decide +kernel) rfl ?_
      have htx21 := TX_fr (f2 := f18) (A2 := A7) htx10 (upf_fr ef18 (by decide)) (upf_fr ef18 (by decide)) (upf_fr ef18 (by decide)) hg919 (rfl)
      have hts22 := TS_w hp9 (Int.le_of_eq (ms_eq (upf_fr ef18 (by decide)) (upf_fr ef18 (by decide)) (upf_fr ef18 (by decide))).symm)
      exact pe_iret (by decide +kernel) rfl rfl ⟨f18, A7, rq5, rfl, hIf18, (fun k n3 n4 n5 n6 n7 n8 n9 => (upf_fr ef18 n9).trans ((hGq5 k n3 n4 n5 n6 n7 n8))), (fun k n148 => (hFq5 k n148)), ⟨(by omega), htx21, hge20, trivial⟩⟩
  · skip
    refine pe_aload_n (j := 0) (by decide +kernel) rfl ?_
    refine pe_get (j := 109) (ci := 12) (n := 6) (by decide +kernel) (by decide +kernel) (md_o hc) rfl ?_
    refine pe_iload_n (j := 1) (by decide +kernel) rfl ?_
    have lw24 := zi_lo (f 6)
    have uw24 := zi_hi (f 6)
    have lw25 := zi_lo x1
    have uw25 := zi_hi x1
    refine pz_icmp_ne (off := 12) (t := 25) (by decide +kernel) (by decide) rfl rfl rfl (fun h23 => ?_) (fun h23 => ?_)
    · skip
      refine pe_aload_n (j := 0) (by decide +kernel) rfl ?_
      refine pe_iconstv (n := 0) (v := 0) (by decide +kernel) (by decide +kernel) ?_
      refine pe_bipushv (n := 8) (v := 8) (by decide +kernel) (by decide +kernel) ?_
      have hl26 := kz_0
      have hl27 := kz_8
      have htx28 : TX f f A A := TX_refl hpp0
      refine pz_callV (j := 130) (mj := 210) (by decide +kernel) (cll_V (args := [.int 8, .int 0]) (n := 2) (by decide +kernel) rfl rfl (md_o hc) (by decide +kernel) (Nat.le_of_ble_eq_true rfl) (Nat.le_of_ble_eq_true rfl)) (NM_210 hc hI (by decide +kernel) (by decide +kernel) (by omega) htx28.2.2.2.2) (fun q29a q29b q29c q29d hqq29 => ?_)
      obtain ⟨f30, A31, rq29, eq29, hIq29, hGq29, hFq29, hX0q29, hX1q29, kq29⟩ := hqq29
      cases eq29
      refine ⟨rfl, rfl, ?_⟩
      obtain ⟨kfq29, kq29⟩ := kq29
      obtain ⟨hp32, hp33, kq29⟩ := kq29
      have htx34 := TX_trans htx28 hp32
      show pmE pg X pg_tyl pg_cl (d + 4) 212 32 [.ref 147, .int x1, pm_dead] [.int rq29] (md wc f30 A31) _
      refine pe_istore_n (j := 2) (ls' := [.ref 147, .int x1, .int rq29]) (by decide +kernel) (Nat.le_of_ble_eq_true rfl) rfl ?_
      refine pe_aload_n (j := 0) (by decide +kernel) rfl ?_
      refine pe_iload_n (j := 2) (by decide +kernel) rfl ?_
      refine pe_aload_n (j := 0) (by decide +kernel) rfl ?_
      refine pe_get (j := 134) (ci := 12) (n := 9) (by decide +kernel) (by decide +kernel) (md_o hc) rfl ?_
      refine pe_top (v := (f 9)) ((hGq29 9 (by decide) (by decide) (by decide) (by decide) (by decide) (by decide))) ?_
      have lw36 := zi_lo (f 9)
      have uw36 := zi_hi (f 9)
      refine pz_icmp_le (off := 7) (t := 46) (by decide +kernel) (by decide) rfl rfl rfl (fun h35 => ?_) (fun h35 => ?_)
      · skip
        refine pe_aload_n (j := 0) (by decide +kernel) rfl ?_
        refine pe_get (j := 134) (ci := 12) (n := 9) (by decide +kernel) (by decide +kernel) (md_o hc) rfl ?_
        refine pe_top (v := (f 9)) ((hGq29 9 (by decide) (by decide) (by decide) (by decide) (by decide) (by decide))) ?_
        refine mz_put9 (jj := 134) (by decide +kernel) (by decide +kernel) hc hIq29 (fun f37 ef37 hIf37 => ?_)
        have hg938 : (f30 9).toInt ≤ (f37 9).toInt := by rw [upf_at ef37, show f30 9 = (f 9) from (hGq29 9 (by decide) (by decide) (by decide) (by decide) (by decide) (by decide))]; omega
        have hge39 : rq29.toInt ≤ (f37 9).toInt := by rw [upf_at ef37]; omega
        refine pe_iload_n (j := 2) (by decide +kernel) rfl ?_
        have htx40 := TX_fr (f2 := f37) (A2 := A31) htx34 (upf_fr ef37 (by decide)) (upf_fr ef37 (by decide)) (upf_fr ef37 (by decide)) hg938 (rfl)
        have hts41 := TS_w hp33 (Int.le_of_eq (ms_eq (upf_fr ef37 (by decide)) (upf_fr ef37 (by decide)) (upf_fr ef37 (by decide))).symm)
        exact pe_iret (by decide +kernel) rfl rfl ⟨f37, A31, rq29, rfl, hIf37, (fun k n3 n4 n5 n6 n7 n8 n9 => (upf_fr ef37 n9).trans ((hGq29 k n3 n4 n5 n6 n7 n8))), (fun k n148 => (hFq29 k n148)), ⟨(by omega), htx40, hge39, trivial⟩⟩
      · skip
        refine pe_iload_n (j := 2) (by decide +kernel) rfl ?_
        refine pe_goto (off := 7) (t := 50) (by decide +kernel) (by decide) rfl ?_
        refine mz_put9 (jj := 134) (by decide +kernel) (by decide +kernel) hc hIq29 (fun f42 ef42 hIf42 => ?_)
        have hg943 : (f30 9).toInt ≤ (f42 9).toInt := by rw [upf_at ef42, show f30 9 = (f 9) from (hGq29 9 (by decide) (by decide) (by decide) (by decide) (by decide) (by decide))]; omega
        have hge44 : rq29.toInt ≤ (f42 9).toInt := by rw [upf_at ef42]; omega
        refine pe_iload_n (j := 2) (by decide +kernel) rfl ?_
        have htx45 := TX_fr (f2 := f42) (A2 := A31) htx34 (upf_fr ef42 (by decide)) (upf_fr ef42 (by decide)) (upf_fr ef42 (by decide)) hg943 (rfl)
        have hts46 := TS_w hp33 (Int.le_of_eq (ms_eq (upf_fr ef42 (by decide)) (upf_fr ef42 (by decide)) (upf_fr ef42 (by decide))).symm)
        exact pe_iret (by decide +kernel) rfl rfl ⟨f42, A31, rq29, rfl, hIf42, (fun k n3 n4 n5 n6 n7 n8 n9 => (upf_fr ef42 n9).trans ((hGq29 k n3 n4 n5 n6 n7 n8))), (fun k n148 => (hFq29 k n148)), ⟨(by omega), htx45, hge44, trivial⟩⟩
    · skip
      refine pe_aload_n (j := 0) (by decide +kernel) rfl ?_
      refine pe_iconstv (n := 2) (v := 2) (by decide +kernel) (by decide +kernel) ?_
      refine pe_aload_n (j := 0) (by decide +kernel) rfl ?_
      refine pe_get (j := 90) (ci := 12) (n := 4) (by decide +kernel) (by decide +kernel) (md_o hc) rfl ?_
      have htx47 : TX f f A A := TX_refl hpp0
      refine pz_callV (j := 123) (mj := 211) (by decide +kernel) (cll_V (args := [.int (f 4), .int 2]) (n := 2) (by decide +kernel) rfl rfl (md_o hc) (by decide +kernel) (Nat.le_of_ble_eq_true rfl) (Nat.le_of_ble_eq_true rfl)) (NM_211 hc hI (by decide +kernel) htx47.2.2.2.2) (fun q48a q48b q48c q48d hqq48 => ?_)
      obtain ⟨A49, eq48, hIq48, hFq48, kq48⟩ := hqq48
      cases eq48
      refine ⟨rfl, rfl, ?_⟩
      obtain ⟨hp50, hp51, kq48⟩ := kq48
      have htx52 := TX_trans htx47 hp50
      show pmE pg X pg_tyl pg_cl (d + 4) 212 25 [.ref 147, .int x1, pm_dead] [] (md wc f A49) _
      refine pe_aload_n (j := 0) (by decide +kernel) rfl ?_
      refine pe_iconstv (n := 0) (v := 0) (by decide +kernel) (by decide +kernel) ?_
      refine pe_bipushv (n := 8) (v := 8) (by decide +kernel) (by decide +kernel) ?_
      have hl53 := kz_0
      have hl54 := kz_8
      refine pz_callV (j := 130) (mj := 210) (by decide +kernel) (cll_V (args := [.int 8, .int 0]) (n := 2) (by decide +kernel) rfl rfl (md_o hc) (by decide +kernel) (Nat.le_of_ble_eq_true rfl) (Nat.le_of_ble_eq_true rfl)) (NM_210 hc hIq48 (by decide +kernel) (by decide +kernel) (by omega) htx52.2.2.2.2) (fun q55a q55b q55c q55d hqq55 => ?_)
      obtain ⟨f56, A57, rq55, eq55, hIq55, hGq55, hFq55, hX0q55, hX1q55, kq55⟩ := hqq55
      cases eq55
      refine ⟨rfl, rfl, ?_⟩
      obtain ⟨kfq55, kq55⟩ := kq55
      obtain ⟨hp58, hp59, kq55⟩ := kq55
      have htx60 := TX_trans htx52 hp58
      have hft61 := hp58.1 hp51
      show pmE pg X pg_tyl pg_cl (d + 4) 212 32 [.ref 147, .int x1, pm_dead] [.int rq55] (md wc f56 A57) _
      refine pe_istore_n (j := 2) (ls' := [.ref 147, .int x1, .int rq55]) (by decide +kernel) (Nat.le_of_ble_eq_true rfl) rfl ?_
      refine pe_aload_n (j := 0) (by decide +kernel) rfl ?_
      refine pe_iload_n (j := 2) (by decide +kernel) rfl ?_
      refine pe_aload_n (j := 0) (by decide +kernel) rfl ?_
      refine pe_get (j := 134) (ci := 12) (n := 9) (by decide +kernel) (by decide +kernel) (md_o hc) rfl ?_
      refine pe_top (v := (f 9)) ((hGq55 9 (by decide) (by decide) (by decide) (by decide) (by decide) (by decide))) ?_
      have lw63 := zi_lo (f 9)
      have uw63 := zi_hi (f 9)
      refine pz_icmp_le (off := 7) (t := 46) (by decide +kernel) (by decide) rfl rfl rfl (fun h62 => ?_) (fun h62 => ?_)
      · skip
        refine pe_aload_n (j := 0) (by decide +kernel) rfl ?_
        refine pe_get (j := 134) (ci := 12) (n := 9) (by decide +kernel) (by decide +kernel) (md_o hc) rfl ?_
        refine pe_top (v := (f 9)) ((hGq55 9 (by decide) (by decide) (by decide) (by decide) (by decide) (by decide))) ?_
        refine mz_put9 (jj := 134) (by decide +kernel) (by decide +kernel) hc hIq55 (fun f64 ef64 hIf64 => ?_)
        have hg965 : (f56 9).toInt ≤ (f64 9).toInt := by rw [upf_at ef64, show f56 9 = (f 9) from (hGq55 9 (by decide) (by decide) (by decide) (by decide) (by decide) (by decide))]; omega
        have hge66 : rq55.toInt ≤ (f64 9).toInt := by rw [upf_at ef64]; omega
        refine pe_iload_n (j := 2) (by decide +kernel) rfl ?_
        have htx67 := TX_fr (f2 := f64) (A2 := A57) htx60 (upf_fr ef64 (by decide)) (upf_fr ef64 (by decide)) (upf_fr ef64 (by decide)) hg965 (rfl)
        have hts68 := TS_w hp59 (Int.le_of_eq (ms_eq (upf_fr ef64 (by decide)) (upf_fr ef64 (by decide)) (upf_fr ef64 (by decide))).symm)
        exact pe_iret (by decide +kernel) rfl rfl ⟨f64, A57, rq55, rfl, hIf64, (fun k n3 n4 n5 n6 n7 n8 n9 => (upf_fr ef64 n9).trans ((hGq55 k n3 n4 n5 n6 n7 n8))), (fun k n148 => ((hFq55 k n148)).trans ((hFq48 k n148))), ⟨(by omega), htx67, hge66, trivial⟩⟩
      · skip
        refine pe_iload_n (j := 2) (by decide +kernel) rfl ?_
        refine pe_goto (off := 7) (t := 50) (by decide +kernel) (by decide) rfl ?_
        refine mz_put9 (jj := 134) (by decide +kernel) (by decide +kernel) hc hIq55 (fun f69 ef69 hIf69 => ?_)
        have hg970 : (f56 9).toInt ≤ (f69 9).toInt := by rw [upf_at ef69, show f56 9 = (f 9) from (hGq55 9 (by decide) (by decide) (by decide) (by decide) (by decide) (by decide))]; omega
        have hge71 : rq55.toInt ≤ (f69 9).toInt := by rw [upf_at ef69]; omega
        refine pe_iload_n (j := 2) (by decide +kernel) rfl ?_
        have htx72 := TX_fr (f2 := f69) (A2 := A57) htx60 (upf_fr ef69 (by decide)) (upf_fr ef69 (by decide)) (upf_fr ef69 (by decide)) hg970 (rfl)
        have hts73 := TS_w hp59 (Int.le_of_eq (ms_eq (upf_fr ef69 (by decide)) (upf_fr ef69 (by decide)) (upf_fr ef69 (by decide))).symm)
        exact pe_iret (by decide +kernel) rfl rfl ⟨f69, A57, rq55, rfl, hIf69, (fun k n3 n4 n5 n6 n7 n8 n9 => (upf_fr ef69 n9).trans ((hGq55 k n3 n4 n5 n6 n7 n8))), (fun k n148 => ((hFq55 k n148)).trans ((hFq48 k n148))), ⟨(by omega), htx72, hge71, trivial⟩⟩
end
section
set_option maxRecDepth 100000 in
set_option maxHeartbeats 8000000 in
theorem NM_213 {X : pm_X} {d : Nat} {wc : pm_W} {f : Nat → Int32} {A : Nat → List Int32} {x1 : Int32} (hc : wc.length = 147) (hI : MI f A) (hpp0 : JJ f A) (hpp1 : TV (A 150) (f 9).toInt (fr (A 148) 3)) (hpp2 : fr (A 150) 1 ≤ 9000) : pmE pg X pg_tyl pg_cl (d + 5) 213 0 (pm_ent (pm_max pg 213) [.ref 147, .int x1]) [] (md wc f A) (fun q => ∃ (f' : Nat → Int32) (A' : Nat → List Int32), q = (none, md wc f' A', 0, 0) ∧ MI f' A' ∧ (∀ k : Nat, k ≠ 3 → k ≠ 4 → k ≠ 5 → k ≠ 6 → k ≠ 7 → k ≠ 8 → k ≠ 9 → f' k = f k) ∧ (∀ k : Nat, k ≠ 148 → k ≠ 150 → A' k = A k) ∧ ((TX f f' A A' ∧ TV (A' 150) (f' 9).toInt (fr (A' 148) 3) ∧ fr (A' 150) 1 ≤ fr (A 150) 1 + 1 ∧ True))) := by
  show pmE pg X pg_tyl pg_cl (d + 5) 213 0 [.ref 147, .int x1, pm_dead, pm_dead, pm_dead, pm_dead, pm_dead] [] (md wc f A) _
  refine pe_aload_n (j := 0) (by decide +kernel) rfl ?_
  refine pe_get (j := 17) (ci := 12) (n := 10) (by decide +kernel) (by decide +kernel) (md_o hc) rfl ?_
  refine pe_iconstv (n := 1) (v := 1) (by decide +kernel) (by decide +kernel) ?_
  refine pz_iald (by decide +kernel) (md_a150 hc) (mlen_150 hI) kz_1 (by omega) (by omega) (fun v1 ev1 => ?_)
  have hb2 := ((hpp1 1 (by decide) (by decide)).2.1 rfl).1
  have hb3 := hpp2
  rw [(show fr (A 150) (1) = v1.toInt from congrArg Int32.toInt ev1.symm)] at hb2 hb3
  refine pe_bipushv (n := 7) (v := 7) (by decide +kernel) (by decide +kernel) ?_
  refine pz_icmp_lt (off := 9) (t := 17) (by decide +kernel) (by decide) rfl rfl kz_7 (fun h4 => ?_) (fun h4 => ?_)
  · skip
    refine pe_aload_n (j := 0) (by decide +kernel) rfl ?_
    refine pe_iconstv (n := (-1)) (v := (-1)) (by decide +kernel) (by decide +kernel) ?_
    have htx5 : TX f f A A := TX_refl hpp0
    refine pz_callV (j := 137) (mj := 212) (by decide +kernel) (cll_V (args := [.int (-1)]) (n := 1) (by decide +kernel) rfl rfl (md_o hc) (by decide +kernel) (Nat.le_of_ble_eq_true rfl) (Nat.le_of_ble_eq_true rfl)) (NM_212 hc hI htx5.2.2.2.2) (fun q6a q6b q6c q6d hqq6 => ?_)
    obtain ⟨f7, A8, rq6, eq6, hIq6, hGq6, hFq6, kq6⟩ := hqq6
    cases eq6
    refine ⟨rfl, rfl, ?_⟩
    obtain ⟨kfq6, kq6⟩ := kq6
    obtain ⟨hp9, hp10, kq6⟩ := kq6
    have htx11 := TX_trans htx5 hp9
    have htv12 := TV_tx hpp1 hp9 ((hFq6 150 (by decide)))
    show pmE pg X pg_tyl pg_cl (d + 5) 213 22 [.ref 147, .int x1, pm_dead, pm_dead, pm_dead, pm_dead, pm_dead] [.int rq6] (md wc f7 A8) _
    refine pe_istore_n (j := 2) (ls' := [.ref 147, .int x1, .int rq6, pm_dead, pm_dead, pm_dead, pm_dead]) (by decide +kernel) (Nat.le_of_ble_eq_true rfl) rfl ?_
    refine pe_aload_n (j := 0) (by decide +kernel) rfl ?_
    refine pe_iload_n (j := 2) (by decide +kernel) rfl ?_
    refine pz_callV (j := 137) (mj := 212) (by decide +kernel) (cll_V (args := [.int rq6]) (n := 1) (by decide +kernel) rfl rfl (md_o hc) (by decide +kernel) (Nat.le_of_ble_eq_true rfl) (Nat.le_of_ble_eq_true rfl)) (NM_212 hc hIq6 htx11.2.2.2.2) (fun q13a q13b q13c q13d hqq13 => ?_)
    obtain ⟨f14, A15, rq13, eq13, hIq13, hGq13, hFq13, kq13⟩ := hqq13
    cases eq13
    refine ⟨rfl, rfl, ?_⟩
    obtain ⟨kfq13, kq13⟩ := kq13
    obtain ⟨hp16, hp17, kq13⟩ := kq13
    have htx18 := TX_trans htx11 hp16
    have hge19 : rq6.toInt ≤ (f14 9).toInt := Int.le_trans hp10 hp16.2.2.2.1
    have htv20 := TV_tx htv12 hp16 ((hFq13 150 (by decide)))
    show pmE pg X pg_tyl pg_cl (d + 5) 213 28 [.ref 147, .int x1, .int rq6, pm_dead, pm_dead, pm_dead, pm_dead] [.int rq13] (md wc f14 A15) _
    refine pe_istore_n (j := 3) (ls' := [.ref 147, .int x1, .int rq6, .int rq13, pm_dead, pm_dead, pm_dead]) (by decide +kernel) (Nat.le_of_ble_eq_true rfl) rfl ?_
    refine pe_aload_n (j := 0) (by decide +kernel) rfl ?_
    refine pe_iconstv (n := 1) (v := 1) (by decide +kernel) (by decide +kernel) ?_
    refine pe_bipushv (n := 99) (v := 99) (by decide +kernel) (by decide +kernel) ?_
    have hl21 := kz_1
    have hl22 := kz_99
    refine pz_callV (j := 130) (mj := 210) (by decide +kernel) (cll_V (args := [.int 99, .int 1]) (n := 2) (by decide +kernel) rfl rfl (md_o hc) (by decide +kernel) (Nat.le_of_ble_eq_true rfl) (Nat.le_of_ble_eq_true rfl)) (NM_210 hc hIq13 (by decide +kernel) (by decide +kernel) (by omega) htx18.2.2.2.2) (fun q23a q23b q23c q23d hqq23 => ?_)
    obtain ⟨f24, A25, rq23, eq23, hIq23, hGq23, hFq23, hX0q23, hX1q23, kq23⟩ := hqq23
    cases eq23
    refine ⟨rfl, rfl, ?_⟩
    obtain ⟨kfq23, kq23⟩ := kq23
    obtain ⟨hp26, hp27, kq23⟩ := kq23
    have htx28 := TX_trans htx18 hp26
    have hge29 : rq6.toInt ≤ (f24 9).toInt := Int.le_trans hge19 hp26.2.2.2.1
    have hge30 : rq13.toInt ≤ (f24 9).toInt := Int.le_trans hp17 hp26.2.2.2.1
    have htv31 := TV_tx htv20 hp26 ((hFq23 150 (by decide)))
    show pmE pg X pg_tyl pg_cl (d + 5) 213 36 [.ref 147, .int x1, .int rq6, .int rq13, pm_dead, pm_dead, pm_dead] [.int rq23] (md wc f24 A25) _
    refine pe_istore (j := 4) (ls' := [.ref 147, .int x1, .int rq6, .int rq13, .int rq23, pm_dead, pm_dead]) (by decide +kernel) (Nat.le_of_ble_eq_true rfl) rfl ?_
    refine pe_aload_n (j := 0) (by decide +kernel) rfl ?_
    refine pe_iconstv (n := 0) (v := 0) (by decide +kernel) (by decide +kernel) ?_
    refine pe_bipushv (n := 99) (v := 99) (by decide +kernel) (by decide +kernel) ?_
    have hl32 := kz_0
    have hl33 := kz_99
    refine pz_callV (j := 130) (mj := 210) (by decide +kernel) (cll_V (args := [.int 99, .int 0]) (n := 2) (by decide +kernel) rfl rfl (md_o hc) (by decide +kernel) (Nat.le_of_ble_eq_true rfl) (Nat.le_of_ble_eq_true rfl)) (NM_210 hc hIq23 (by decide +kernel) (by decide +kernel) (by omega) htx28.2.2.2.2) (fun q34a q34b q34c q34d hqq34 => ?_)
    obtain ⟨f35, A36, rq34, eq34, hIq34, hGq34, hFq34, hX0q34, hX1q34, kq34⟩ := hqq34
    cases eq34
    refine ⟨rfl, rfl, ?_⟩
    obtain ⟨kfq34, kq34⟩ := kq34
    obtain ⟨hp37, hp38, kq34⟩ := kq34
    have htx39 := TX_trans htx28 hp37
    have hge40 : rq6.toInt ≤ (f35 9).toInt := Int.le_trans hge29 hp37.2.2.2.1
    have hge41 : rq13.toInt ≤ (f35 9).toInt := Int.le_trans hge30 hp37.2.2.2.1
    have htv42 := TV_tx htv31 hp37 ((hFq34 150 (by decide)))
    show pmE pg X pg_tyl pg_cl (d + 5) 213 45 [.ref 147, .int x1, .int rq6, .int rq13, .int rq23, pm_dead, pm_dead] [.int rq34] (md wc f35 A36) _
    refine pe_istore (j := 5) (ls' := [.ref 147, .int x1, .int rq6, .int rq13, .int rq23, .int rq34, pm_dead]) (by decide +kernel) (Nat.le_of_ble_eq_true rfl) rfl ?_
    refine pe_aload_n (j := 0) (by decide +kernel) rfl ?_
    refine pe_get (j := 17) (ci := 12) (n := 10) (by decide +kernel) (by decide +kernel) (md_o hc) rfl ?_
    refine pe_iconstv (n := 1) (v := 1) (by decide +kernel) (by decide +kernel) ?_
    refine pz_iald (by decide +kernel) (md_a150 hc) (mlen_150 hIq34) kz_1 (by omega) (by omega) (fun v43 ev43 => ?_)
    rw [show A36 150 = A 150 from ((hFq34 150 (by decide))).trans (((hFq23 150 (by decide))).trans (((hFq13 150 (by decide))).trans ((hFq6 150 (by decide)))))] at ev43
    rw [ev43.trans ev1.symm]
    clear ev43 v43
    refine pe_bipushv (n := 7) (v := 7) (by decide +kernel) (by decide +kernel) ?_
    refine pz_icmp_ge (off := 56) (t := 111) (by decide +kernel) (by decide) rfl rfl kz_7 (fun h44 => by omega) (fun h44 => ?_)
    refine pe_bipushv (n := 102) (v := 102) (by decide +kernel) (by decide +kernel) ?_
    refine pe_iconstv (n := 4) (v := 4) (by decide +kernel) (by decide +kernel) ?_
    refine pe_aload_n (j := 0) (by decide +kernel) rfl ?_
    refine pe_get (j := 17) (ci := 12) (n := 10) (by decide +kernel) (by decide +kernel) (md_o hc) rfl ?_
    refine pe_iconstv (n := 1) (v := 1) (by decide +kernel) (by decide +kernel) ?_
    refine pz_iald (by decide +kernel) (md_a150 hc) (mlen_150 hIq34) kz_1 (by omega) (by omega) (fun v45 ev45 => ?_)
    rw [show A36 150 = A 150 from ((hFq34 150 (by decide))).trans (((hFq23 150 (by decide))).trans (((hFq13 150 (by decide))).trans ((hFq6 150 (by decide)))))] at ev45
    rw [ev45.trans ev1.symm]
    clear ev45 v45
    refine pz_mul (by decide +kernel) kz_4 rfl (by omega) (by omega) (fun z46 hz46 => ?_)
    refine pz_add (by decide +kernel) kz_102 hz46 (by omega) (by omega) (fun z47 hz47 => ?_)
    clear hz46
    refine pe_istore (j := 6) (ls' := [.ref 147, .int x1, .int rq6, .int rq13, .int rq23, .int rq34, .int z47]) (by decide +kernel) (Nat.le_of_ble_eq_true rfl) rfl ?_
    refine pe_aload_n (j := 0) (by decide +kernel) rfl ?_
    refine pe_get (j := 17) (ci := 12) (n := 10) (by decide +kernel) (by decide +kernel) (md_o hc) rfl ?_
    refine pe_iload (j := 6) (by decide +kernel) rfl ?_
    refine pe_iload_n (j := 2) (by decide +kernel) rfl ?_
    refine mz_st150 (by decide +kernel) hc hIq34 hz47 (by omega) (by omega) (fun A48 eA48 hIA48 => ?_)
    refine pe_aload_n (j := 0) (by decide +kernel) rfl ?_
    refine pe_get (j := 17) (ci := 12) (n := 10) (by decide +kernel) (by decide +kernel) (md_o hc) rfl ?_
    refine pe_iload (j := 6) (by decide +kernel) rfl ?_
    refine pe_iconstv (n := 1) (v := 1) (by decide +kernel) (by decide +kernel) ?_
    refine pz_add (by decide +kernel) hz47 kz_1 (by omega) (by omega) (fun z49 hz49 => ?_)
    refine pe_iload_n (j := 3) (by decide +kernel) rfl ?_
    refine mz_st150 (by decide +kernel) hc hIA48 hz49 (by omega) (by omega) (fun A50 eA50 hIA50 => ?_)
    refine pe_aload_n (j := 0) (by decide +kernel) rfl ?_
    refine pe_get (j := 17) (ci := 12) (n := 10) (by decide +kernel) (by decide +kernel) (md_o hc) rfl ?_
    refine pe_iload (j := 6) (by decide +kernel) rfl ?_
    refine pe_iconstv (n := 2) (v := 2) (by decide +kernel) (by decide +kernel) ?_
    refine pz_add (by decide +kernel) hz47 kz_2 (by omega) (by omega) (fun z51 hz51 => ?_)
    refine pe_iload (j := 4) (by decide +kernel) rfl ?_
    refine mz_st150 (by decide +kernel) hc hIA50 hz51 (by omega) (by omega) (fun A52 eA52 hIA52 => ?_)
    refine pe_aload_n (j := 0) (by decide +kernel) rfl ?_
    refine pe_get (j := 17) (ci := 12) (n := 10) (by decide +kernel) (by decide +kernel) (md_o hc) rfl ?_
    refine pe_iload (j := 6) (by decide +kernel) rfl ?_
    refine pe_iconstv (n := 3) (v := 3) (by decide +kernel) (by decide +kernel) ?_
    refine pz_add (by decide +kernel) hz47 kz_3 (by omega) (by omega) (fun z53 hz53 => ?_)
    refine pe_iload (j := 5) (by decide +kernel) rfl ?_
    refine mz_st150 (by decide +kernel) hc hIA52 hz53 (by omega) (by omega) (fun A54 eA54 hIA54 => ?_)
    refine pe_aload_n (j := 0) (by decide +kernel) rfl ?_
    refine pe_get (j := 17) (ci := 12) (n := 10) (by decide +kernel) (by decide +kernel) (md_o hc) rfl ?_
    refine pe_iconstv (n := 1) (v := 1) (by decide +kernel) (by decide +kernel) ?_
    refine pe_dup2 (by decide +kernel) ⟨rfl, rfl⟩ ?_
    refine pz_iald (by decide +kernel) (md_a150 hc) (mlen_150 hIA54) kz_1 (by omega) (by omega) (fun v55 ev55 => ?_)
    have hv156 : v55.toInt = v1.toInt := by rw [← (show fr (A54 150) (1) = v55.toInt from congrArg Int32.toInt ev55.symm), show fr (A54 150) 1 = fr (A52 150) 1 by rw [upa_at eA54, fr_ne (i := ((102 + (4 * v1.toInt)) + 3)) (by omega) (by decide) (by omega)], show fr (A52 150) 1 = fr (A50 150) 1 by rw [upa_at eA52, fr_ne (i := ((102 + (4 * v1.toInt)) + 2)) (by omega) (by decide) (by omega)], show fr (A50 150) 1 = fr (A48 150) 1 by rw [upa_at eA50, fr_ne (i := ((102 + (4 * v1.toInt)) + 1)) (by omega) (by decide) (by omega)], show fr (A48 150) 1 = fr (A36 150) 1 by rw [upa_at eA48, fr_ne (i := (102 + (4 * v1.toInt))) (by omega) (by decide) (by omega)], show A36 150 = A25 150 from (hFq34 150 (by decide)), show A25 150 = A15 150 from (hFq23 150 (by decide)), show A15 150 = A8 150 from (hFq13 150 (by decide)), show A8 150 = A 150 from (hFq6 150 (by decide)), (show fr (A 150) (1) = v1.toInt from congrArg Int32.toInt ev1.symm)]
    refine pe_iconstv (n := 1) (v := 1) (by decide +kernel) (by decide +kernel) ?_
    refine pz_add (by decide +kernel) rfl kz_1 (by omega) (by omega) (fun z57 hz57 => ?_)
    refine mz_st150 (by decide +kernel) hc hIA54 kz_1 (by omega) (by omega) (fun A58 eA58 hIA58 => ?_)
    have htv59 : TV (A48 150) (f35 9).toInt (fr (A48 148) 3) := by rw [upa_at eA48, upa_fr eA48 (by decide : (148 : Nat) ≠ 150)]; exact TV_set (i := (102 + (4 * v1.toInt))) htv42 (by omega) (by omega) (mlen_150 hIq34) (by unfold TVi; omega)
    have htv60 : TV (A50 150) (f35 9).toInt (fr (A50 148) 3) := by rw [upa_at eA50, upa_fr eA50 (by decide : (148 : Nat) ≠ 150)]; exact TV_set (i := ((102 + (4 * v1.toInt)) + 1)) htv59 (by omega) (by omega) (mlen_150 hIA48) (by unfold TVi; omega)
    have htv61 : TV (A52 150) (f35 9).toInt (fr (A52 148) 3) := by rw [upa_at eA52, upa_fr eA52 (by decide : (148 : Nat) ≠ 150)]; exact TV_set (i := ((102 + (4 * v1.toInt)) + 2)) htv60 (by omega) (by omega) (mlen_150 hIA50) (by unfold TVi; omega)
    have htv62 : TV (A54 150) (f35 9).toInt (fr (A54 148) 3) := by rw [upa_at eA54, upa_fr eA54 (by decide : (148 : Nat) ≠ 150)]; exact TV_set (i := ((102 + (4 * v1.toInt)) + 3)) htv61 (by omega) (by omega) (mlen_150 hIA52) (by unfold TVi; omega)
    have htv63 : TV (A58 150) (f35 9).toInt (fr (A58 148) 3) := by rw [upa_at eA58, upa_fr eA58 (by decide : (148 : Nat) ≠ 150)]; exact TV_set (i := 1) htv62 (by omega) (by omega) (mlen_150 hIA54) (by have hl64 := kz_1; unfold TVi; omega)
    have htx65 := TX_fr (f2 := f35) (A2 := A58) htx39 (rfl) (rfl) (rfl) (by rw [show f35 9 = f35 9 from rfl]; exact Int.le_refl _) ((upa_fr eA58 (by decide)).trans ((upa_fr eA54 (by decide)).trans ((upa_fr eA52 (by decide)).trans ((upa_fr eA50 (by decide)).trans (upa_fr eA48 (by decide))))))
    exact pe_vret (by decide +kernel) rfl ⟨f35, A58, rfl, hIA58, (fun k n3 n4 n5 n6 n7 n8 n9 => ((hGq34 k n3 n4 n5 n6 n7 n8)).trans (((hGq23 k n3 n4 n5 n6 n7 n8)).trans (((hGq13 k n3 n4 n5 n6 n7 n8 n9)).trans ((hGq6 k n3 n4 n5 n6 n7 n8 n9))))), (fun k n148 n150 => (upa_fr eA58 n150).trans ((upa_fr eA54 n150).trans ((upa_fr eA52 n150).trans ((upa_fr eA50 n150).trans ((upa_fr eA48 n150).trans (((hFq34 k n148)).trans (((hFq23 k n148)).trans (((hFq13 k n148)).trans ((hFq6 k n148)))))))))), ⟨htx65, htv63, (by rw [upa_at eA58, fr_eq (by decide) (by rw [mlen_150 hIA54]; decide), (show fr (A 150) (1) = v1.toInt from congrArg Int32.toInt ev1.symm)]; omega), trivial⟩⟩
  · skip
    refine pe_aload_n (j := 0) (by decide +kernel) rfl ?_
    refine pe_iconstv (n := 3) (v := 3) (by decide +kernel) (by decide +kernel) ?_
    refine pe_iload_n (j := 1) (by decide +kernel) rfl ?_
    have htx66 : TX f f A A := TX_refl hpp0
    refine pz_callV (j := 123) (mj := 211) (by decide +kernel) (cll_V (args := [.int x1, .int 3]) (n := 2) (by decide +kernel) rfl rfl (md_o hc) (by decide +kernel) (Nat.le_of_ble_eq_true rfl) (Nat.le_of_ble_eq_true rfl)) (NM_211 hc hI (by decide +kernel) htx66.2.2.2.2) (fun q67a q67b q67c q67d hqq67 => ?_)
    obtain ⟨A68, eq67, hIq67, hFq67, kq67⟩ := hqq67
    cases eq67
    refine ⟨rfl, rfl, ?_⟩
    obtain ⟨hp69, hp70, kq67⟩ := kq67
    have htx71 := TX_trans htx66 hp69
    have htv72 := TV_tx hpp1 hp69 ((hFq67 150 (by decide)))
    show pmE pg X pg_tyl pg_cl (d + 5) 213 17 [.ref 147, .int x1, pm_dead, pm_dead, pm_dead, pm_dead, pm_dead] [] (md wc f A68) _
    refine pe_aload_n (j := 0) (by decide +kernel) rfl ?_
    refine pe_iconstv (n := (-1)) (v := (-1)) (by decide +kernel) (by decide +kernel) ?_
    refine pz_callV (j := 137) (mj := 212) (by decide +kernel) (cll_V (args := [.int (-1)]) (n := 1) (by decide +kernel) rfl rfl (md_o hc) (by decide +kernel) (Nat.le_of_ble_eq_true rfl) (Nat.le_of_ble_eq_true rfl)) (NM_212 hc hIq67 htx71.2.2.2.2) (fun q73a q73b q73c q73d hqq73 => ?_)
    obtain ⟨f74, A75, rq73, eq73, hIq73, hGq73, hFq73, kq73⟩ := hqq73
    cases eq73
    refine ⟨rfl, rfl, ?_⟩
    obtain ⟨kfq73, kq73⟩ := kq73
    obtain ⟨hp76, hp77, kq73⟩ := kq73
    have htx78 := TX_trans htx71 hp76
    have hft79 := hp76.1 hp70
    have htv80 := TV_tx htv72 hp76 ((hFq73 150 (by decide)))
    show pmE pg X pg_tyl pg_cl (d + 5) 213 22 [.ref 147, .int x1, pm_dead, pm_dead, pm_dead, pm_dead, pm_dead] [.int rq73] (md wc f74 A75) _
    refine pe_istore_n (j := 2) (ls' := [.ref 147, .int x1, .int rq73, pm_dead, pm_dead, pm_dead, pm_dead]) (by decide +kernel) (Nat.le_of_ble_eq_true rfl) rfl ?_
    refine pe_aload_n (j := 0) (by decide +kernel) rfl ?_
    refine pe_iload_n (j := 2) (by decide +kernel) rfl ?_
    refine pz_callV (j := 137) (mj := 212) (by decide +kernel) (cll_V (args := [.int rq73]) (n := 1) (by decide +kernel) rfl rfl (md_o hc) (by decide +kernel) (Nat.le_of_ble_eq_true rfl) (Nat.le_of_ble_eq_true rfl)) (NM_212 hc hIq73 htx78.2.2.2.2) (fun q81a q81b q81c q81d hqq81 => ?_)
    obtain ⟨f82, A83, rq81, eq81, hIq81, hGq81, hFq81, kq81⟩ := hqq81
    cases eq81
    refine ⟨rfl, rfl, ?_⟩
    obtain ⟨kfq81, kq81⟩ := kq81
    obtain ⟨hp84, hp85, kq81⟩ := kq81
    have htx86 := TX_trans htx78 hp84
    have hge87 : rq73.toInt ≤ (f82 9).toInt := Int.le_trans hp77 hp84.2.2.2.1
    have hft88 := hp84.1 hft79
    have htv89 := TV_tx htv80 hp84 ((hFq81 150 (by decide)))
    show pmE pg X pg_tyl pg_cl (d + 5) 213 28 [.ref 147, .int x1, .int rq73, pm_dead, pm_dead, pm_dead, pm_dead] [.int rq81] (md wc f82 A83) _
    refine pe_istore_n (j := 3) (ls' := [.ref 147, .int x1, .int rq73, .int rq81, pm_dead, pm_dead, pm_dead]) (by decide +kernel) (Nat.le_of_ble_eq_true rfl) rfl ?_
    refine pe_aload_n (j := 0) (by decide +kernel) rfl ?_
    refine pe_iconstv (n := 1) (v := 1) (by decide +kernel) (by decide +kernel) ?_
    refine pe_bipushv (n := 99) (v := 99) (by decide +kernel) (by decide +kernel) ?_
    have hl90 := kz_1
    have hl91 := kz_99
    refine pz_callV (j := 130) (mj := 210) (by decide +kernel) (cll_V (args := [.int 99, .int 1]) (n := 2) (by decide +kernel) rfl rfl (md_o hc) (by decide +kernel) (Nat.le_of_ble_eq_true rfl) (Nat.le_of_ble_eq_true rfl)) (NM_210 hc hIq81 (by decide +kernel) (by decide +kernel) (by omega) htx86.2.2.2.2) (fun q92a q92b q92c q92d hqq92 => ?_)
    obtain ⟨f93, A94, rq92, eq92, hIq92, hGq92, hFq92, hX0q92, hX1q92, kq92⟩ := hqq92
    cases eq92
    refine ⟨rfl, rfl, ?_⟩
    obtain ⟨kfq92, kq92⟩ := kq92
    obtain ⟨hp95, hp96, kq92⟩ := kq92
    have htx97 := TX_trans htx86 hp95
    have hge98 : rq73.toInt ≤ (f93 9).toInt := Int.le_trans hge87 hp95.2.2.2.1
    have hge99 : rq81.toInt ≤ (f93 9).toInt := Int.le_trans hp85 hp95.2.2.2.1
    have hft100 := hp95.1 hft88
    have htv101 := TV_tx htv89 hp95 ((hFq92 150 (by decide)))
    show pmE pg X pg_tyl pg_cl (d + 5) 213 36 [.ref 147, .int x1, .int rq73, .int rq81, pm_dead, pm_dead, pm_dead] [.int rq92] (md wc f93 A94) _
    refine pe_istore (j := 4) (ls' := [.ref 147, .int x1, .int rq73, .int rq81, .int rq92, pm_dead, pm_dead]) (by decide +kernel) (Nat.le_of_ble_eq_true rfl) rfl ?_
    refine pe_aload_n (j := 0) (by decide +kernel) rfl ?_
    refine pe_iconstv (n := 0) (v := 0) (by decide +kernel) (by decide +kernel) ?_
    refine pe_bipushv (n := 99) (v := 99) (by decide +kernel) (by decide +kernel) ?_
    have hl102 := kz_0
    have hl103 := kz_99
    refine pz_callV (j := 130) (mj := 210) (by decide +kernel) (cll_V (args := [.int 99, .int 0]) (n := 2) (by decide +kernel) rfl rfl (md_o hc) (by decide +kernel) (Nat.le_of_ble_eq_true rfl) (Nat.le_of_ble_eq_true rfl)) (NM_210 hc hIq92 (by decide +kernel) (by decide +kernel) (by omega) htx97.2.2.2.2) (fun q104a q104b q104c q104d hqq104 => ?_)
    obtain ⟨f105, A106, rq104, eq104, hIq104, hGq104, hFq104, hX0q104, hX1q104, kq104⟩ := hqq104
    cases eq104
    refine ⟨rfl, rfl, ?_⟩
    obtain ⟨kfq104, kq104⟩ := kq104
    obtain ⟨hp107, hp108, kq104⟩ := kq104
    have htx109 := TX_trans htx97 hp107
    have hge110 : rq73.toInt ≤ (f105 9).toInt := Int.le_trans hge98 hp107.2.2.2.1
    have hge111 : rq81.toInt ≤ (f105 9).toInt := Int.le_trans hge99 hp107.2.2.2.1
    have hft112 := hp107.1 hft100
    have htv113 := TV_tx htv101 hp107 ((hFq104 150 (by decide)))
    show pmE pg X pg_tyl pg_cl (d + 5) 213 45 [.ref 147, .int x1, .int rq73, .int rq81, .int rq92, pm_dead, pm_dead] [.int rq104] (md wc f105 A106) _
    refine pe_istore (j := 5) (ls' := [.ref 147, .int x1, .int rq73, .int rq81, .int rq92, .int rq104, pm_dead]) (by decide +kernel) (Nat.le_of_ble_eq_true rfl) rfl ?_
    refine pe_aload_n (j := 0) (by decide +kernel) rfl ?_
    refine pe_get (j := 17) (ci := 12) (n := 10) (by decide +kernel) (by decide +kernel) (md_o hc) rfl ?_
    refine pe_iconstv (n := 1) (v := 1) (by decide +kernel) (by decide +kernel) ?_
    refine pz_iald (by decide +kernel) (md_a150 hc) (mlen_150 hIq104) kz_1 (by omega) (by omega) (fun v114 ev114 => ?_)
    rw [show A106 150 = A 150 from ((hFq104 150 (by decide))).trans (((hFq92 150 (by decide))).trans (((hFq81 150 (by decide))).trans (((hFq73 150 (by decide))).trans ((hFq67 150 (by decide))))))] at ev114
    rw [ev114.trans ev1.symm]
    clear ev114 v114
    refine pe_bipushv (n := 7) (v := 7) (by decide +kernel) (by decide +kernel) ?_
    refine pz_icmp_ge (off := 56) (t := 111) (by decide +kernel) (by decide) rfl rfl kz_7 (fun h115 => ?_) (fun h115 => by omega)
    refine pe_aload_n (j := 0) (by decide +kernel) rfl ?_
    refine pe_get (j := 17) (ci := 12) (n := 10) (by decide +kernel) (by decide +kernel) (md_o hc) rfl ?_
    refine pe_iconstv (n := 1) (v := 1) (by decide +kernel) (by decide +kernel) ?_
    refine pe_dup2 (by decide +kernel) ⟨rfl, rfl⟩ ?_
    refine pz_iald (by decide +kernel) (md_a150 hc) (mlen_150 hIq104) kz_1 (by omega) (by omega) (fun v116 ev116 => ?_)
    rw [show A106 150 = A 150 from ((hFq104 150 (by decide))).trans (((hFq92 150 (by decide))).trans (((hFq81 150 (by decide))).trans (((hFq73 150 (by decide))).trans ((hFq67 150 (by decide))))))] at ev116
    rw [ev116.trans ev1.symm]
    clear ev116 v116
    refine pe_iconstv (n := 1) (v := 1) (by decide +kernel) (by decide +kernel) ?_
    refine pz_add (by decide +kernel) rfl kz_1 (by omega) (by omega) (fun z117 hz117 => ?_)
    refine mz_st150 (by decide +kernel) hc hIq104 kz_1 (by omega) (by omega) (fun A118 eA118 hIA118 => ?_)
    have htv119 : TV (A118 150) (f105 9).toInt (fr (A118 148) 3) := by rw [upa_at eA118, upa_fr eA118 (by decide : (148 : Nat) ≠ 150)]; exact TV_set (i := 1) htv113 (by omega) (by omega) (mlen_150 hIq104) (by have hl120 := kz_1; have hft := hft112; rw [← show A106 148 = A106 148 from rfl] at hft; unfold TVi; omega)
    have htx121 := TX_fr (f2 := f105) (A2 := A118) htx109 (rfl) (rfl) (rfl) (by rw [show f105 9 = f105 9 from rfl]; exact Int.le_refl _) (upa_fr eA118 (by decide))
    exact pe_vret (by decide +kernel) rfl ⟨f105, A118, rfl, hIA118, (fun k n3 n4 n5 n6 n7 n8 n9 => ((hGq104 k n3 n4 n5 n6 n7 n8)).trans (((hGq92 k n3 n4 n5 n6 n7 n8)).trans (((hGq81 k n3 n4 n5 n6 n7 n8 n9)).trans ((hGq73 k n3 n4 n5 n6 n7 n8 n9))))), (fun k n148 n150 => (upa_fr eA118 n150).trans (((hFq104 k n148)).trans (((hFq92 k n148)).trans (((hFq81 k n148)).trans (((hFq73 k n148)).trans ((hFq67 k n148))))))), ⟨htx121, htv119, (by rw [upa_at eA118, fr_eq (by decide) (by rw [mlen_150 hIq104]; decide), (show fr (A 150) (1) = v1.toInt from congrArg Int32.toInt ev1.symm)]; omega), trivial⟩⟩
set_option maxRecDepth 100000 in
set_option maxHeartbeats 8000000 in
theorem NL_207_86 {X : pm_X} {d : Nat} {wc : pm_W} {Q : pm_R → Prop} {f : Nat → Int32} {A0 : Nat → List Int32} {x1 x2 x3 : Int32} (hc : wc.length = 147) (gx2 : (3 ≤ x2.toInt ∧ x2.toInt ≤ 3)) (gx3 : (0 ≤ x3.toInt ∧ x3.toInt ≤ 99)) (k_121_0 : ∀ (A' : Nat → List Int32) (y4 : Int32), MI f A' → (∀ k : Nat, k ≠ 150 → A' k = A0 k) → (81 ≤ y4.toInt ∧ y4.toInt ≤ 81) → TV (A' 150) (f 9).toInt (fr (A0 148) 3) → fr (A' 150) 1 ≤ fr (A0 150) 1 → pmE pg X pg_tyl pg_cl (d + 6) 207 121 [.ref 147, .int x1, .int x2, .int x3, .int y4] [] (md wc f A') Q) : ∀ (m : Nat) (A : Nat → List Int32) (x4 : Int32), MI f A → (∀ k : Nat, k ≠ 150 → A k = A0 k) → (0 ≤ x4.toInt ∧ x4.toInt ≤ 81) → TV (A 150) (f 9).toInt (fr (A0 148) 3) → fr (A 150) 1 ≤ fr (A0 150) 1 → 81 - x4.toInt < (m : Int) → pmE pg X pg_tyl pg_cl (d + 6) 207 86 [.ref 147, .int x1, .int x2, .int x3, .int x4] [] (md wc f A) Q := by
  intro m
  induction m with
  | zero =>
    intro A x4 hI hF gx4 hpi0 hpi1 hm
    exfalso
    have l0 := zi_lo x4
    have u0 := zi_hi x4
    omega
  | succ m ih =>
    intro A x4 hI hF gx4 hpi0 hpi1 hm
    refine pe_iload (j := 4) (by decide +kernel) rfl ?_
    refine pe_bipushv (n := 81) (v := 81) (by decide +kernel) (by decide +kernel) ?_
    refine pz_icmp_ge (off := 31) (t := 121) (by decide +kernel) (by decide) rfl rfl kz_81 (fun h1 => ?_) (fun h1 => ?_)
    · skip
      exact k_121_0 A x4 hI (fun k n150 => (hF k n150)) (by omega) hpi0 hpi1
    · skip
      refine pe_aload_n (j := 0) (by decide +kernel) rfl ?_
      refine pe_get (j := 17) (ci := 12) (n := 10) (by decide +kernel) (by decide +kernel) (md_o hc) rfl ?_
      refine pe_iconstv (n := 3) (v := 3) (by decide +kernel) (by decide +kernel) ?_
      refine pe_iload (j := 4) (by decide +kernel) rfl ?_
      refine pz_add (by decide +kernel) kz_3 rfl (by omega) (by omega) (fun z2 hz2 => ?_)
      refine pe_iload (j := 4) (by decide +kernel) rfl ?_
      refine pe_bipushv (n := 10) (v := 10) (by decide +kernel) (by decide +kernel) ?_
      refine pz_rem (by decide +kernel) rfl kz_10 (by omega) (by omega) (fun z3 hz3 gz3 kz3 => ?_)
      refine pz_if_ne (off := 7) (t := 113) (by decide +kernel) (by decide) rfl rfl (fun h4 => ?_) (fun h4 => ?_)
      · skip
        refine pe_iload_n (j := 3) (by decide +kernel) rfl ?_
        refine mz_st150 (by decide +kernel) hc hI hz2 (by omega) (by omega) (fun A5 eA5 hIA5 => ?_)
        refine pz_iinc (j := 4) (n := 1) (by decide +kernel) rfl rfl (by decide +kernel) (by omega) (by omega) (fun z6 hz6 => ?_)
        show pmE pg X pg_tyl pg_cl (d + 6) 207 118 [.ref 147, .int x1, .int x2, .int x3, .int z6] [] (md wc f A5) _
        refine pe_goto (off := (-32)) (t := 86) (by decide +kernel) (by decide) rfl ?_
        exact ih A5 z6 hIA5 (fun k n150 => (upa_fr eA5 n150).trans ((hF k n150))) (by omega) (by rw [upa_at eA5]; exact TV_set (i := (3 + x4.toInt)) hpi0 (by omega) (by omega) (mlen_150 hI) (by unfold TVi; omega)) (by rw [upa_at eA5, fr_ne (i := (3 + x4.toInt)) (by omega) (by decide) (by omega)]; exact hpi1) (by omega)
      · skip
        refine pe_iconstv (n := 0) (v := 0) (by decide +kernel) (by decide +kernel) ?_
        refine pe_goto (off := 4) (t := 114) (by decide +kernel) (by decide) rfl ?_
        refine mz_st150 (by decide +kernel) hc hI hz2 (by omega) (by omega) (fun A7 eA7 hIA7 => ?_)
        refine pz_iinc (j := 4) (n := 1) (by decide +kernel) rfl rfl (by decide +kernel) (by omega) (by omega) (fun z8 hz8 => ?_)
        show pmE pg X pg_tyl pg_cl (d + 6) 207 118 [.ref 147, .int x1, .int x2, .int x3, .int z8] [] (md wc f A7) _
        refine pe_goto (off := (-32)) (t := 86) (by decide +kernel) (by decide) rfl ?_
        exact ih A7 z8 hIA7 (fun k n150 => (upa_fr eA7 n150).trans ((hF k n150))) (by omega) (by rw [upa_at eA7]; exact TV_set (i := (3 + x4.toInt)) hpi0 (by omega) (by omega) (mlen_150 hI) (by have hl9 := kz_0; unfold TVi; omega)) (by rw [upa_at eA7, fr_ne (i := (3 + x4.toInt)) (by omega) (by decide) (by omega)]; exact hpi1) (by omega)
set_option maxRecDepth 100000 in
set_option maxHeartbeats 8000000 in
theorem NM_207 {X : pm_X} {d : Nat} {wc : pm_W} {f : Nat → Int32} {A : Nat → List Int32} (hc : wc.length = 147) (hI : MI f A) (hpp0 : JJ f A) (hpp1 : TV (A 150) (f 9).toInt (fr (A 148) 3)) (hpp2 : fr (A 150) 1 ≤ 9000) : pmE pg X pg_tyl pg_cl (d + 6) 207 0 (pm_ent (pm_max pg 207) [.ref 147]) [] (md wc f A) (fun q => ∃ (f' : Nat → Int32) (A' : Nat → List Int32), q = (none, md wc f' A', 0, 0) ∧ MI f' A' ∧ (∀ k : Nat, k ≠ 3 → k ≠ 4 → k ≠ 5 → k ≠ 6 → k ≠ 7 → k ≠ 8 → k ≠ 9 → f' k = f k) ∧ (∀ k : Nat, k ≠ 148 → k ≠ 150 → A' k = A k) ∧ ((TX f f' A A' ∧ TS f f' ∧ TV (A' 150) (f' 9).toInt (fr (A' 148) 3) ∧ fr (A' 150) 1 ≤ fr (A 150) 1 + 1 ∧ True))) := by
  show pmE pg X pg_tyl pg_cl (d + 6) 207 0 [.ref 147, pm_dead, pm_dead, pm_dead, pm_dead] [] (md wc f A) _
  refine pe_aload_n (j := 0) (by decide +kernel) rfl ?_
  refine pe_get (j := 90) (ci := 12) (n := 4) (by decide +kernel) (by decide +kernel) (md_o hc) rfl ?_
  refine pe_istore_n (j := 1) (ls' := [.ref 147, .int (f 4), pm_dead, pm_dead, pm_dead]) (by decide +kernel) (Nat.le_of_ble_eq_true rfl) rfl ?_
  refine pe_aload_n (j := 0) (by decide +kernel) rfl ?_
  refine pe_iconstv (n := 1) (v := 1) (by decide +kernel) (by decide +kernel) ?_
  refine pe_bipushv (n := 7) (v := 7) (by decide +kernel) (by decide +kernel) ?_
  have htx1 : TX f f A A := TX_refl hpp0
  refine pz_callV (j := 140) (mj := 208) (by decide +kernel) (cll_V (args := [.int 7, .int 1]) (n := 2) (by decide +kernel) rfl rfl (md_o hc) (by decide +kernel) (Nat.le_of_ble_eq_true rfl) (Nat.le_of_ble_eq_true rfl)) (NM_208 hc hI (by decide +kernel) (by decide +kernel) htx1.2.2.2.2) (fun q2a q2b q2c q2d hqq2 => ?_)
  obtain ⟨f3, A4, rq2, eq2, hIq2, hGq2, hFq2, kq2⟩ := hqq2
  cases eq2
  refine ⟨rfl, rfl, ?_⟩
  obtain ⟨kfq2, kq2⟩ := kq2
  obtain ⟨hp5, hp6, kq2⟩ := kq2
  have htx7 := TX_trans htx1 hp5
  have htv8 := TV_tx hpp1 hp5 ((hFq2 150 (by decide)))
  show pmE pg X pg_tyl pg_cl (d + 6) 207 12 [.ref 147, .int (f 4), pm_dead, pm_dead, pm_dead] [.int rq2] (md wc f3 A4) _
  refine pe_istore_n (j := 2) (ls' := [.ref 147, .int (f 4), .int rq2, pm_dead, pm_dead]) (by decide +kernel) (Nat.le_of_ble_eq_true rfl) rfl ?_
  refine pe_iload_n (j := 2) (by decide +kernel) rfl ?_
  refine pe_iconstv (n := 1) (v := 1) (by decide +kernel) (by decide +kernel) ?_
  refine pz_icmp_ne (off := 16) (t := 31) (by decide +kernel) (by decide) rfl rfl kz_1 (fun h9 => ?_) (fun h9 => ?_)
  · skip
    refine pe_iload_n (j := 2) (by decide +kernel) rfl ?_
    refine pe_iconstv (n := 2) (v := 2) (by decide +kernel) (by decide +kernel) ?_
    refine pz_icmp_ne (off := 37) (t := 70) (by decide +kernel) (by decide) rfl rfl kz_2 (fun h10 => ?_) (fun h10 => ?_)
    · skip
      refine pe_iload_n (j := 2) (by decide +kernel) rfl ?_
      refine pe_iconstv (n := 3) (v := 3) (by decide +kernel) (by decide +kernel) ?_
      refine pz_icmp_ne (off := 49) (t := 121) (by decide +kernel) (by decide) rfl rfl kz_3 (fun h11 => ?_) (fun h11 => ?_)
      · skip
        refine pe_iload_n (j := 2) (by decide +kernel) rfl ?_
        refine pe_iconstv (n := 4) (v := 4) (by decide +kernel) (by decide +kernel) ?_
        refine pz_icmp_eq (off := 8) (t := 131) (by decide +kernel) (by decide) rfl rfl kz_4 (fun h12 => ?_) (fun h12 => ?_)
        · skip
          refine pe_aload_n (j := 0) (by decide +kernel) rfl ?_
          refine pe_iconstv (n := (-1)) (v := (-1)) (by decide +kernel) (by decide +kernel) ?_
          refine pz_callV (j := 137) (mj := 212) (by decide +kernel) (cll_V (args := [.int (-1)]) (n := 1) (by decide +kernel) rfl rfl (md_o hc) (by decide +kernel) (Nat.le_of_ble_eq_true rfl) (Nat.le_of_ble_eq_true rfl)) (NM_212 hc hIq2 htx7.2.2.2.2) (fun q13a q13b q13c q13d hqq13 => ?_)
          obtain ⟨f14, A15, rq13, eq13, hIq13, hGq13, hFq13, kq13⟩ := hqq13
          cases eq13
          refine ⟨rfl, rfl, ?_⟩
          obtain ⟨kfq13, kq13⟩ := kq13
          obtain ⟨hp16, hp17, kq13⟩ := kq13
          have htx18 := TX_trans htx7 hp16
          have hts19 := TS_w hp6 hp16.2.2.1
          have htv20 := TV_tx htv8 hp16 ((hFq13 150 (by decide)))
          show pmE pg X pg_tyl pg_cl (d + 6) 207 136 [.ref 147, .int (f 4), .int rq2, pm_dead, pm_dead] [.int rq13] (md wc f14 A15) _
          refine pe_istore_n (j := 3) (ls' := [.ref 147, .int (f 4), .int rq2, .int rq13, pm_dead]) (by decide +kernel) (Nat.le_of_ble_eq_true rfl) rfl ?_
          refine pe_iload_n (j := 2) (by decide +kernel) rfl ?_
          refine pe_iconstv (n := 4) (v := 4) (by decide +kernel) (by decide +kernel) ?_
          refine pz_icmp_ne (off := 13) (t := 152) (by decide +kernel) (by decide) rfl rfl kz_4 (fun h21 => by omega) (fun h21 => ?_)
          refine pe_aload_n (j := 0) (by decide +kernel) rfl ?_
          refine pe_iconstv (n := 0) (v := 0) (by decide +kernel) (by decide +kernel) ?_
          refine pe_bipushv (n := 99) (v := 99) (by decide +kernel) (by decide +kernel) ?_
          have hl22 := kz_0
          have hl23 := kz_99
          refine pz_callV (j := 130) (mj := 210) (by decide +kernel) (cll_V (args := [.int 99, .int 0]) (n := 2) (by decide +kernel) rfl rfl (md_o hc) (by decide +kernel) (Nat.le_of_ble_eq_true rfl) (Nat.le_of_ble_eq_true rfl)) (NM_210 hc hIq13 (by decide +kernel) (by decide +kernel) (by omega) htx18.2.2.2.2) (fun q24a q24b q24c q24d hqq24 => ?_)
          obtain ⟨f25, A26, rq24, eq24, hIq24, hGq24, hFq24, hX0q24, hX1q24, kq24⟩ := hqq24
          cases eq24
          refine ⟨rfl, rfl, ?_⟩
          obtain ⟨kfq24, kq24⟩ := kq24
          obtain ⟨hp27, hp28, kq24⟩ := kq24
          have htx29 := TX_trans htx18 hp27
          have hts30 := TS_w hts19 hp27.2.2.1
          have hge31 : rq13.toInt ≤ (f25 9).toInt := Int.le_trans hp17 hp27.2.2.2.1
          have htv32 := TV_tx htv20 hp27 ((hFq24 150 (by decide)))
          show pmE pg X pg_tyl pg_cl (d + 6) 207 149 [.ref 147, .int (f 4), .int rq2, .int rq13, pm_dead] [.int rq24] (md wc f25 A26) _
          refine pe_goto (off := 10) (t := 159) (by decide +kernel) (by decide) rfl ?_
          refine pe_istore (j := 4) (ls' := [.ref 147, .int (f 4), .int rq2, .int rq13, .int rq24]) (by decide +kernel) (Nat.le_of_ble_eq_true rfl) rfl ?_
          refine pe_aload_n (j := 0) (by decide +kernel) rfl ?_
          refine pe_get (j := 17) (ci := 12) (n := 10) (by decide +kernel) (by decide +kernel) (md_o hc) rfl ?_
          refine pe_iload_n (j := 2) (by decide +kernel) rfl ?_
          refine pe_iconstv (n := 4) (v := 4) (by decide +kernel) (by decide +kernel) ?_
          refine pz_icmp_ne (off := 8) (t := 175) (by decide +kernel) (by decide) rfl rfl kz_4 (fun h33 => by omega) (fun h33 => ?_)
          refine pe_bipushv (n := 84) (v := 84) (by decide +kernel) (by decide +kernel) ?_
          refine pe_goto (off := 5) (t := 177) (by decide +kernel) (by decide) rfl ?_
          refine pe_iload_n (j := 3) (by decide +kernel) rfl ?_
          refine pz_add (by decide +kernel) kz_84 rfl (by omega) (by omega) (fun z34 hz34 => ?_)
          refine pe_iload (j := 4) (by decide +kernel) rfl ?_
          refine mz_st150 (by decide +kernel) hc hIq24 hz34 (by omega) (by omega) (fun A35 eA35 hIA35 => ?_)
          refine pe_iload_n (j := 2) (by decide +kernel) rfl ?_
          refine pe_bipushv (n := 6) (v := 6) (by decide +kernel) (by decide +kernel) ?_
          refine pz_icmp_ne (off := 16) (t := 201) (by decide +kernel) (by decide) rfl rfl kz_6 (fun h36 => ?_) (fun h36 => by omega)
          refine pe_iload_n (j := 2) (by decide +kernel) rfl ?_
          refine pe_bipushv (n := 7) (v := 7) (by decide +kernel) (by decide +kernel) ?_
          refine pz_icmp_ne (off := 8) (t := 212) (by decide +kernel) (by decide) rfl rfl kz_7 (fun h37 => ?_) (fun h37 => by omega)
          refine pe_aload_n (j := 0) (by decide +kernel) rfl ?_
          have htv38 : TV (A35 150) (f25 9).toInt (fr (A35 148) 3) := by rw [upa_at eA35, upa_fr eA35 (by decide : (148 : Nat) ≠ 150)]; exact TV_set (i := (84 + rq13.toInt)) htv32 (by omega) (by omega) (mlen_150 hIq24) (by unfold TVi; omega)
          have htx39 := TX_fr (f2 := f25) (A2 := A35) htx29 (rfl) (rfl) (rfl) (by rw [show f25 9 = f25 9 from rfl]; exact Int.le_refl _) (upa_fr eA35 (by decide))
          have hts40 := TS_w hts30 (Int.le_of_eq (ms_eq (rfl) (rfl) (rfl)).symm)
          refine pz_callV (j := 147) (mj := 214) (by decide +kernel) (cll_V (args := []) (n := 0) (by decide +kernel) rfl rfl (md_o hc) (by decide +kernel) (Nat.le_of_ble_eq_true rfl) (Nat.le_of_ble_eq_true rfl)) (NM_214 hc hIA35 htx39.2.2.2.2) (fun q41a q41b q41c q41d hqq41 => ?_)
          obtain ⟨f42, A43, eq41, hIq41, hGq41, hFq41, kq41⟩ := hqq41
          cases eq41
          refine ⟨rfl, rfl, ?_⟩
          obtain ⟨hp44, kq41⟩ := kq41
          have htx45 := TX_trans htx39 hp44
          have hts46 := TS_w hts40 hp44.2.2.1
          have hge47 : rq13.toInt ≤ (f42 9).toInt := Int.le_trans hge31 hp44.2.2.2.1
          have htv48 := TV_tx htv38 hp44 ((hFq41 150 (by decide)))
          show pmE pg X pg_tyl pg_cl (d + 6) 207 216 [.ref 147, .int (f 4), .int rq2, .int rq13, .int rq24] [] (md wc f42 A43) _
          exact pe_vret (by decide +kernel) rfl ⟨f42, A43, rfl, hIq41, (fun k n3 n4 n5 n6 n7 n8 n9 => ((hGq41 k n3 n4 n5 n6 n7 n8)).trans (((hGq24 k n3 n4 n5 n6 n7 n8)).trans (((hGq13 k n3 n4 n5 n6 n7 n8 n9)).trans ((hGq2 k n3 n4 n5 n6 n7 n8))))), (fun k n148 n150 => ((hFq41 k n148)).trans ((upa_fr eA35 n150).trans (((hFq24 k n148)).trans (((hFq13 k n148)).trans ((hFq2 k n148)))))), ⟨htx45, hts46, htv48, (by rw [show A43 150 = A35 150 from (hFq41 150 (by decide)), show fr (A35 150) 1 = fr (A26 150) 1 by rw [upa_at eA35, fr_ne (i := (84 + rq13.toInt)) (by omega) (by decide) (by omega)], show A26 150 = A15 150 from (hFq24 150 (by decide)), show A15 150 = A4 150 from (hFq13 150 (by decide)), show A4 150 = A 150 from (hFq2 150 (by decide))]; omega), trivial⟩⟩
        · skip
          refine pe_iload_n (j := 2) (by decide +kernel) rfl ?_
          refine pe_iconstv (n := 5) (v := 5) (by decide +kernel) (by decide +kernel) ?_
          refine pz_icmp_ne (off := 54) (t := 182) (by decide +kernel) (by decide) rfl rfl kz_5 (fun h49 => ?_) (fun h49 => ?_)
          · skip
            refine pe_iload_n (j := 2) (by decide +kernel) rfl ?_
            refine pe_bipushv (n := 6) (v := 6) (by decide +kernel) (by decide +kernel) ?_
            refine pz_icmp_ne (off := 16) (t := 201) (by decide +kernel) (by decide) rfl rfl kz_6 (fun h50 => ?_) (fun h50 => ?_)
            · skip
              refine pe_iload_n (j := 2) (by decide +kernel) rfl ?_
              refine pe_bipushv (n := 7) (v := 7) (by decide +kernel) (by decide +kernel) ?_
              refine pz_icmp_ne (off := 8) (t := 212) (by decide +kernel) (by decide) rfl rfl kz_7 (fun h51 => ?_) (fun h51 => ?_)
              · skip
                refine pe_aload_n (j := 0) (by decide +kernel) rfl ?_
                refine pz_callV (j := 147) (mj := 214) (by decide +kernel) (cll_V (args := []) (n := 0) (by decide +kernel) rfl rfl (md_o hc) (by decide +kernel) (Nat.le_of_ble_eq_true rfl) (Nat.le_of_ble_eq_true rfl)) (NM_214 hc hIq2 htx7.2.2.2.2) (fun q52a q52b q52c q52d hqq52 => ?_)
                obtain ⟨f53, A54, eq52, hIq52, hGq52, hFq52, kq52⟩ := hqq52
                cases eq52
                refine ⟨rfl, rfl, ?_⟩
                obtain ⟨hp55, kq52⟩ := kq52
                have htx56 := TX_trans htx7 hp55
                have hts57 := TS_w hp6 hp55.2.2.1
                have htv58 := TV_tx htv8 hp55 ((hFq52 150 (by decide)))
                show pmE pg X pg_tyl pg_cl (d + 6) 207 216 [.ref 147, .int (f 4), .int rq2, pm_dead, pm_dead] [] (md wc f53 A54) _
                exact pe_vret (by decide +kernel) rfl ⟨f53, A54, rfl, hIq52, (fun k n3 n4 n5 n6 n7 n8 n9 => ((hGq52 k n3 n4 n5 n6 n7 n8)).trans ((hGq2 k n3 n4 n5 n6 n7 n8))), (fun k n148 n150 => ((hFq52 k n148)).trans ((hFq2 k n148))), ⟨htx56, hts57, htv58, (by rw [show A54 150 = A4 150 from (hFq52 150 (by decide)), show A4 150 = A 150 from (hFq2 150 (by decide))]; omega), trivial⟩⟩
              · skip
                refine pe_aload_n (j := 0) (by decide +kernel) rfl ?_
                refine pe_iload_n (j := 1) (by decide +kernel) rfl ?_
                refine pz_callV (j := 143) (mj := 213) (by decide +kernel) (cll_V (args := [.int (f 4)]) (n := 1) (by decide +kernel) rfl rfl (md_o hc) (by decide +kernel) (Nat.le_of_ble_eq_true rfl) (Nat.le_of_ble_eq_true rfl)) (NM_213 hc hIq2 htx7.2.2.2.2 htv8 (by rw [show A4 150 = A 150 from (hFq2 150 (by decide))]; exact hpp2)) (fun q59a q59b q59c q59d hqq59 => ?_)
                obtain ⟨f60, A61, eq59, hIq59, hGq59, hFq59, kq59⟩ := hqq59
                cases eq59
                refine ⟨rfl, rfl, ?_⟩
                obtain ⟨hp62, hp63, hp64, kq59⟩ := kq59
                have htx65 := TX_trans htx7 hp62
                have hts66 := TS_w hp6 hp62.2.2.1
                show pmE pg X pg_tyl pg_cl (d + 6) 207 212 [.ref 147, .int (f 4), .int rq2, pm_dead, pm_dead] [] (md wc f60 A61) _
                refine pe_aload_n (j := 0) (by decide +kernel) rfl ?_
                refine pz_callV (j := 147) (mj := 214) (by decide +kernel) (cll_V (args := []) (n := 0) (by decide +kernel) rfl rfl (md_o hc) (by decide +kernel) (Nat.le_of_ble_eq_true rfl) (Nat.le_of_ble_eq_true rfl)) (NM_214 hc hIq59 htx65.2.2.2.2) (fun q67a q67b q67c q67d hqq67 => ?_)
                obtain ⟨f68, A69, eq67, hIq67, hGq67, hFq67, kq67⟩ := hqq67
                cases eq67
                refine ⟨rfl, rfl, ?_⟩
                obtain ⟨hp70, kq67⟩ := kq67
                have htx71 := TX_trans htx65 hp70
                have hts72 := TS_w hts66 hp70.2.2.1
                have htv73 := TV_tx hp63 hp70 ((hFq67 150 (by decide)))
                show pmE pg X pg_tyl pg_cl (d + 6) 207 216 [.ref 147, .int (f 4), .int rq2, pm_dead, pm_dead] [] (md wc f68 A69) _
                exact pe_vret (by decide +kernel) rfl ⟨f68, A69, rfl, hIq67, (fun k n3 n4 n5 n6 n7 n8 n9 => ((hGq67 k n3 n4 n5 n6 n7 n8)).trans (((hGq59 k n3 n4 n5 n6 n7 n8 n9)).trans ((hGq2 k n3 n4 n5 n6 n7 n8)))), (fun k n148 n150 => ((hFq67 k n148)).trans (((hFq59 k n148 n150)).trans ((hFq2 k n148)))), ⟨htx71, hts72, htv73, (by have h := hp64; rw [show A4 150 = A 150 from (hFq2 150 (by decide))] at h; rw [show A69 150 = A61 150 from (hFq67 150 (by decide))]; omega), trivial⟩⟩
            · skip
              refine pe_aload_n (j := 0) (by decide +kernel) rfl ?_
              refine pe_get (j := 17) (ci := 12) (n := 10) (by decide +kernel) (by decide +kernel) (md_o hc) rfl ?_
              refine pe_iconstv (n := 2) (v := 2) (by decide +kernel) (by decide +kernel) ?_
              refine pe_aload_n (j := 0) (by decide +kernel) rfl ?_
              refine pe_iconstv (n := 0) (v := 0) (by decide +kernel) (by decide +kernel) ?_
              refine pe_bipushv (n := 9) (v := 9) (by decide +kernel) (by decide +kernel) ?_
              have hl74 := kz_0
              have hl75 := kz_9
              refine pz_callV (j := 130) (mj := 210) (by decide +kernel) (cll_V (args := [.int 9, .int 0]) (n := 2) (by decide +kernel) rfl rfl (md_o hc) (by decide +kernel) (Nat.le_of_ble_eq_true rfl) (Nat.le_of_ble_eq_true rfl)) (NM_210 hc hIq2 (by decide +kernel) (by decide +kernel) (by omega) htx7.2.2.2.2) (fun q76a q76b q76c q76d hqq76 => ?_)
              obtain ⟨f77, A78, rq76, eq76, hIq76, hGq76, hFq76, hX0q76, hX1q76, kq76⟩ := hqq76
              cases eq76
              refine ⟨rfl, rfl, ?_⟩
              obtain ⟨kfq76, kq76⟩ := kq76
              obtain ⟨hp79, hp80, kq76⟩ := kq76
              have htx81 := TX_trans htx7 hp79
              have hts82 := TS_w hp6 hp79.2.2.1
              have htv83 := TV_tx htv8 hp79 ((hFq76 150 (by decide)))
              show pmE pg X pg_tyl pg_cl (d + 6) 207 200 [.ref 147, .int (f 4), .int rq2, pm_dead, pm_dead] [.int rq76, .int 2, .ref 150] (md wc f77 A78) _
              refine mz_st150 (by decide +kernel) hc hIq76 kz_2 (by omega) (by omega) (fun A84 eA84 hIA84 => ?_)
              refine pe_iload_n (j := 2) (by decide +kernel) rfl ?_
              refine pe_bipushv (n := 7) (v := 7) (by decide +kernel) (by decide +kernel) ?_
              refine pz_icmp_ne (off := 8) (t := 212) (by decide +kernel) (by decide) rfl rfl kz_7 (fun h85 => ?_) (fun h85 => by omega)
              refine pe_aload_n (j := 0) (by decide +kernel) rfl ?_
              have htv86 : TV (A84 150) (f77 9).toInt (fr (A84 148) 3) := by rw [upa_at eA84, upa_fr eA84 (by decide : (148 : Nat) ≠ 150)]; exact TV_set (i := 2) htv83 (by omega) (by omega) (mlen_150 hIq76) (by have hl87 := kz_2; unfold TVi; omega)
              have htx88 := TX_fr (f2 := f77) (A2 := A84) htx81 (rfl) (rfl) (rfl) (by rw [show f77 9 = f77 9 from rfl]; exact Int.le_refl _) (upa_fr eA84 (by decide))
              have hts89 := TS_w hts82 (Int.le_of_eq (ms_eq (rfl) (rfl) (rfl)).symm)
              refine pz_callV (j := 147) (mj := 214) (by decide +kernel) (cll_V (args := []) (n := 0) (by decide +kernel) rfl rfl (md_o hc) (by decide +kernel) (Nat.le_of_ble_eq_true rfl) (Nat.le_of_ble_eq_true rfl)) (NM_214 hc hIA84 htx88.2.2.2.2) (fun q90a q90b q90c q90d hqq90 => ?_)
              obtain ⟨f91, A92, eq90, hIq90, hGq90, hFq90, kq90⟩ := hqq90
              cases eq90
              refine ⟨rfl, rfl, ?_⟩
              obtain ⟨hp93, kq90⟩ := kq90
              have htx94 := TX_trans htx88 hp93
              have hts95 := TS_w hts89 hp93.2.2.1
              have htv96 := TV_tx htv86 hp93 ((hFq90 150 (by decide)))
              show pmE pg X pg_tyl pg_cl (d + 6) 207 216 [.ref 147, .int (f 4), .int rq2, pm_dead, pm_dead] [] (md wc f91 A92) _
              exact pe_vret (by decide +kernel) rfl ⟨f91, A92, rfl, hIq90, (fun k n3 n4 n5 n6 n7 n8 n9 => ((hGq90 k n3 n4 n5 n6 n7 n8)).trans (((hGq76 k n3 n4 n5 n6 n7 n8)).trans ((hGq2 k n3 n4 n5 n6 n7 n8)))), (fun k n148 n150 => ((hFq90 k n148)).trans ((upa_fr eA84 n150).trans (((hFq76 k n148)).trans ((hFq2 k n148))))), ⟨htx94, hts95, htv96, (by rw [show A92 150 = A84 150 from (hFq90 150 (by decide)), show fr (A84 150) 1 = fr (A78 150) 1 by rw [upa_at eA84, fr_ne (i := 2) (by omega) (by decide) (by omega)], show A78 150 = A4 150 from (hFq76 150 (by decide)), show A4 150 = A 150 from (hFq2 150 (by decide))]; omega), trivial⟩⟩
          · skip
            refine pe_aload_n (j := 0) (by decide +kernel) rfl ?_
            refine pe_iconstv (n := (-1)) (v := (-1)) (by decide +kernel) (by decide +kernel) ?_
            refine pz_callV (j := 137) (mj := 212) (by decide +kernel) (cll_V (args := [.int (-1)]) (n := 1) (by decide +kernel) rfl rfl (md_o hc) (by decide +kernel) (Nat.le_of_ble_eq_true rfl) (Nat.le_of_ble_eq_true rfl)) (NM_212 hc hIq2 htx7.2.2.2.2) (fun q97a q97b q97c q97d hqq97 => ?_)
            obtain ⟨f98, A99, rq97, eq97, hIq97, hGq97, hFq97, kq97⟩ := hqq97
            cases eq97
            refine ⟨rfl, rfl, ?_⟩
            obtain ⟨kfq97, kq97⟩ := kq97
            obtain ⟨hp100, hp101, kq97⟩ := kq97
            have htx102 := TX_trans htx7 hp100
            have hts103 := TS_w hp6 hp100.2.2.1
            have htv104 := TV_tx htv8 hp100 ((hFq97 150 (by decide)))
            show pmE pg X pg_tyl pg_cl (d + 6) 207 136 [.ref 147, .int (f 4), .int rq2, pm_dead, pm_dead] [.int rq97] (md wc f98 A99) _
            refine pe_istore_n (j := 3) (ls' := [.ref 147, .int (f 4), .int rq2, .int rq97, pm_dead]) (by decide +kernel) (Nat.le_of_ble_eq_true rfl) rfl ?_
            refine pe_iload_n (j := 2) (by decide +kernel) rfl ?_
            refine pe_iconstv (n := 4) (v := 4) (by decide +kernel) (by decide +kernel) ?_
            refine pz_icmp_ne (off := 13) (t := 152) (by decide +kernel) (by decide) rfl rfl kz_4 (fun h105 => ?_) (fun h105 => by omega)
            refine pe_aload_n (j := 0) (by decide +kernel) rfl ?_
            refine pe_iconstv (n := 0) (v := 0) (by decide +kernel) (by decide +kernel) ?_
            refine pe_bipushv (n := 100) (v := 100) (by decide +kernel) (by decide +kernel) ?_
            have hl106 := kz_0
            have hl107 := kz_100
            refine pz_callV (j := 130) (mj := 210) (by decide +kernel) (cll_V (args := [.int 100, .int 0]) (n := 2) (by decide +kernel) rfl rfl (md_o hc) (by decide +kernel) (Nat.le_of_ble_eq_true rfl) (Nat.le_of_ble_eq_true rfl)) (NM_210 hc hIq97 (by decide +kernel) (by decide +kernel) (by omega) htx102.2.2.2.2) (fun q108a q108b q108c q108d hqq108 => ?_)
            obtain ⟨f109, A110, rq108, eq108, hIq108, hGq108, hFq108, hX0q108, hX1q108, kq108⟩ := hqq108
            cases eq108
            refine ⟨rfl, rfl, ?_⟩
            obtain ⟨kfq108, kq108⟩ := kq108
            obtain ⟨hp111, hp112, kq108⟩ := kq108
            have htx113 := TX_trans htx102 hp111
            have hts114 := TS_w hts103 hp111.2.2.1
            have hge115 : rq97.toInt ≤ (f109 9).toInt := Int.le_trans hp101 hp111.2.2.2.1
            have htv116 := TV_tx htv104 hp111 ((hFq108 150 (by decide)))
            show pmE pg X pg_tyl pg_cl (d + 6) 207 159 [.ref 147, .int (f 4), .int rq2, .int rq97, pm_dead] [.int rq108] (md wc f109 A110) _
            refine pe_istore (j := 4) (ls' := [.ref 147, .int (f 4), .int rq2, .int rq97, .int rq108]) (by decide +kernel) (Nat.le_of_ble_eq_true rfl) rfl ?_
            refine pe_aload_n (j := 0) (by decide +kernel) rfl ?_
            refine pe_get (j := 17) (ci := 12) (n := 10) (by decide +kernel) (by decide +kernel) (md_o hc) rfl ?_
            refine pe_iload_n (j := 2) (by decide +kernel) rfl ?_
            refine pe_iconstv (n := 4) (v := 4) (by decide +kernel) (by decide +kernel) ?_
            refine pz_icmp_ne (off := 8) (t := 175) (by decide +kernel) (by decide) rfl rfl kz_4 (fun h117 => ?_) (fun h117 => by omega)
            refine pe_bipushv (n := 93) (v := 93) (by decide +kernel) (by decide +kernel) ?_
            refine pe_iload_n (j := 3) (by decide +kernel) rfl ?_
            refine pz_add (by decide +kernel) kz_93 rfl (by omega) (by omega) (fun z118 hz118 => ?_)
            refine pe_iload (j := 4) (by decide +kernel) rfl ?_
            refine mz_st150 (by decide +kernel) hc hIq108 hz118 (by omega) (by omega) (fun A119 eA119 hIA119 => ?_)
            refine pe_iload_n (j := 2) (by decide +kernel) rfl ?_
            refine pe_bipushv (n := 6) (v := 6) (by decide +kernel) (by decide +kernel) ?_
            refine pz_icmp_ne (off := 16) (t := 201) (by decide +kernel) (by decide) rfl rfl kz_6 (fun h120 => ?_) (fun h120 => by omega)
            refine pe_iload_n (j := 2) (by decide +kernel) rfl ?_
            refine pe_bipushv (n := 7) (v := 7) (by decide +kernel) (by decide +kernel) ?_
            refine pz_icmp_ne (off := 8) (t := 212) (by decide +kernel) (by decide) rfl rfl kz_7 (fun h121 => ?_) (fun h121 => by omega)
            refine pe_aload_n (j := 0) (by decide +kernel) rfl ?_
            have htv122 : TV (A119 150) (f109 9).toInt (fr (A119 148) 3) := by rw [upa_at eA119, upa_fr eA119 (by decide : (148 : Nat) ≠ 150)]; exact TV_set (i := (93 + rq97.toInt)) htv116 (by omega) (by omega) (mlen_150 hIq108) (by unfold TVi; omega)
            have htx123 := TX_fr (f2 := f109) (A2 := A119) htx113 (rfl) (rfl) (rfl) (by rw [show f109 9 = f109 9 from rfl]; exact Int.le_refl _) (upa_fr eA119 (by decide))
            have hts124 := TS_w hts114 (Int.le_of_eq (ms_eq (rfl) (rfl) (rfl)).symm)
            refine pz_callV (j := 147) (mj := 214) (by decide +kernel) (cll_V (args := []) (n := 0) (by decide +kernel) rfl rfl (md_o hc) (by decide +kernel) (Nat.le_of_ble_eq_true rfl) (Nat.le_of_ble_eq_true rfl)) (NM_214 hc hIA119 htx123.2.2.2.2) (fun q125a q125b q125c q125d hqq125 => ?_)
            obtain ⟨f126, A127, eq125, hIq125, hGq125, hFq125, kq125⟩ := hqq125
            cases eq125
            refine ⟨rfl, rfl, ?_⟩
            obtain ⟨hp128, kq125⟩ := kq125
            have htx129 := TX_trans htx123 hp128
            have hts130 := TS_w hts124 hp128.2.2.1
            have hge131 : rq97.toInt ≤ (f126 9).toInt := Int.le_trans hge115 hp128.2.2.2.1
            have htv132 := TV_tx htv122 hp128 ((hFq125 150 (by decide)))
            show pmE pg X pg_tyl pg_cl (d + 6) 207 216 [.ref 147, .int (f 4), .int rq2, .int rq97, .int rq108] [] (md wc f126 A127) _
            exact pe_vret (by decide +kernel) rfl ⟨f126, A127, rfl, hIq125, (fun k n3 n4 n5 n6 n7 n8 n9 => ((hGq125 k n3 n4 n5 n6 n7 n8)).trans (((hGq108 k n3 n4 n5 n6 n7 n8)).trans (((hGq97 k n3 n4 n5 n6 n7 n8 n9)).trans ((hGq2 k n3 n4 n5 n6 n7 n8))))), (fun k n148 n150 => ((hFq125 k n148)).trans ((upa_fr eA119 n150).trans (((hFq108 k n148)).trans (((hFq97 k n148)).trans ((hFq2 k n148)))))), ⟨htx129, hts130, htv132, (by rw [show A127 150 = A119 150 from (hFq125 150 (by decide)), show fr (A119 150) 1 = fr (A110 150) 1 by rw [upa_at eA119, fr_ne (i := (93 + rq97.toInt)) (by omega) (by decide) (by omega)], show A110 150 = A99 150 from (hFq108 150 (by decide)), show A99 150 = A4 150 from (hFq97 150 (by decide)), show A4 150 = A 150 from (hFq2 150 (by decide))]; omega), trivial⟩⟩
      · skip
        refine pe_aload_n (j := 0) (by decide +kernel) rfl ?_
        refine pe_iconstv (n := 0) (v := 0) (by decide +kernel) (by decide +kernel) ?_
        refine pe_bipushv (n := 99) (v := 99) (by decide +kernel) (by decide +kernel) ?_
        have hl133 := kz_0
        have hl134 := kz_99
        refine pz_callV (j := 130) (mj := 210) (by decide +kernel) (cll_V (args := [.int 99, .int 0]) (n := 2) (by decide +kernel) rfl rfl (md_o hc) (by decide +kernel) (Nat.le_of_ble_eq_true rfl) (Nat.le_of_ble_eq_true rfl)) (NM_210 hc hIq2 (by decide +kernel) (by decide +kernel) (by omega) htx7.2.2.2.2) (fun q135a q135b q135c q135d hqq135 => ?_)
        obtain ⟨f136, A137, rq135, eq135, hIq135, hGq135, hFq135, hX0q135, hX1q135, kq135⟩ := hqq135
        cases eq135
        refine ⟨rfl, rfl, ?_⟩
        obtain ⟨kfq135, kq135⟩ := kq135
        obtain ⟨hp138, hp139, kq135⟩ := kq135
        have htx140 := TX_trans htx7 hp138
        have hts141 := TS_w hp6 hp138.2.2.1
        have htv142 := TV_tx htv8 hp138 ((hFq135 150 (by decide)))
        show pmE pg X pg_tyl pg_cl (d + 6) 207 82 [.ref 147, .int (f 4), .int rq2, pm_dead, pm_dead] [.int rq135] (md wc f136 A137) _
        refine pe_istore_n (j := 3) (ls' := [.ref 147, .int (f 4), .int rq2, .int rq135, pm_dead]) (by decide +kernel) (Nat.le_of_ble_eq_true rfl) rfl ?_
        refine pe_iconstv (n := 0) (v := 0) (by decide +kernel) (by decide +kernel) ?_
        refine pe_istore (j := 4) (ls' := [.ref 147, .int (f 4), .int rq2, .int rq135, .int 0]) (by decide +kernel) (Nat.le_of_ble_eq_true rfl) rfl ?_
        refine NL_207_86 hc (by omega) (by omega) (fun A143 y144 hIy145 hFA143 gy144 hp146 hp147 => ?_) 82 A137 0 hIq135 (fun k _ => rfl) (by decide +kernel) htv142 (Int.le_refl _) (by decide +kernel)
        have htv148 : TV (A143 150) (f136 9).toInt (fr (A143 148) 3) := by rw [show A143 148 = A137 148 from (hFA143 148 (by decide))]; exact hp146
        refine pe_iload_n (j := 2) (by decide +kernel) rfl ?_
        refine pe_iconstv (n := 4) (v := 4) (by decide +kernel) (by decide +kernel) ?_
        refine pz_icmp_eq (off := 8) (t := 131) (by decide +kernel) (by decide) rfl rfl kz_4 (fun h149 => by omega) (fun h149 => ?_)
        refine pe_iload_n (j := 2) (by decide +kernel) rfl ?_
        refine pe_iconstv (n := 5) (v := 5) (by decide +kernel) (by decide +kernel) ?_
        refine pz_icmp_ne (off := 54) (t := 182) (by decide +kernel) (by decide) rfl rfl kz_5 (fun h150 => ?_) (fun h150 => by omega)
        refine pe_iload_n (j := 2) (by decide +kernel) rfl ?_
        refine pe_bipushv (n := 6) (v := 6) (by decide +kernel) (by decide +kernel) ?_
        refine pz_icmp_ne (off := 16) (t := 201) (by decide +kernel) (by decide) rfl rfl kz_6 (fun h151 => ?_) (fun h151 => by omega)
        refine pe_iload_n (j := 2) (by decide +kernel) rfl ?_
        refine pe_bipushv (n := 7) (v := 7) (by decide +kernel) (by decide +kernel) ?_
        refine pz_icmp_ne (off := 8) (t := 212) (by decide +kernel) (by decide) rfl rfl kz_7 (fun h152 => ?_) (fun h152 => by omega)
        refine pe_aload_n (j := 0) (by decide +kernel) rfl ?_
        have htx153 := TX_fr (f2 := f136) (A2 := A143) htx140 (rfl) (rfl) (rfl) (by rw [show f136 9 = f136 9 from rfl]; exact Int.le_refl _) ((hFA143 148 (by decide)))
        have hts154 := TS_w hts141 (Int.le_of_eq (ms_eq (rfl) (rfl) (rfl)).symm)
        refine pz_callV (j := 147) (mj := 214) (by decide +kernel) (cll_V (args := []) (n := 0) (by decide +kernel) rfl rfl (md_o hc) (by decide +kernel) (Nat.le_of_ble_eq_true rfl) (Nat.le_of_ble_eq_true rfl)) (NM_214 hc hIy145 htx153.2.2.2.2) (fun q155a q155b q155c q155d hqq155 => ?_)
        obtain ⟨f156, A157, eq155, hIq155, hGq155, hFq155, kq155⟩ := hqq155
        cases eq155
        refine ⟨rfl, rfl, ?_⟩
        obtain ⟨hp158, kq155⟩ := kq155
        have htx159 := TX_trans htx153 hp158
        have hts160 := TS_w hts154 hp158.2.2.1
        have htv161 := TV_tx htv148 hp158 ((hFq155 150 (by decide)))
        show pmE pg X pg_tyl pg_cl (d + 6) 207 216 [.ref 147, .int (f 4), .int rq2, .int rq135, .int y144] [] (md wc f156 A157) _
        exact pe_vret (by decide +kernel) rfl ⟨f156, A157, rfl, hIq155, (fun k n3 n4 n5 n6 n7 n8 n9 => ((hGq155 k n3 n4 n5 n6 n7 n8)).trans (((hGq135 k n3 n4 n5 n6 n7 n8)).trans ((hGq2 k n3 n4 n5 n6 n7 n8)))), (fun k n148 n150 => ((hFq155 k n148)).trans (((hFA143 k n150)).trans (((hFq135 k n148)).trans ((hFq2 k n148))))), ⟨htx159, hts160, htv161, (by have h := hp147; rw [show A137 150 = A 150 from ((hFq135 150 (by decide))).trans ((hFq2 150 (by decide)))] at h; rw [show A157 150 = A143 150 from (hFq155 150 (by decide))]; omega), trivial⟩⟩
    · skip
      refine pe_aload_n (j := 0) (by decide +kernel) rfl ?_
      refine pe_iconstv (n := (-1)) (v := (-1)) (by decide +kernel) (by decide +kernel) ?_
      refine pz_callV (j := 137) (mj := 212) (by decide +kernel) (cll_V (args := [.int (-1)]) (n := 1) (by decide +kernel) rfl rfl (md_o hc) (by decide +kernel) (Nat.le_of_ble_eq_true rfl) (Nat.le_of_ble_eq_true rfl)) (NM_212 hc hIq2 htx7.2.2.2.2) (fun q162a q162b q162c q162d hqq162 => ?_)
      obtain ⟨f163, A164, rq162, eq162, hIq162, hGq162, hFq162, kq162⟩ := hqq162
      cases eq162
      refine ⟨rfl, rfl, ?_⟩
      obtain ⟨kfq162, kq162⟩ := kq162
      obtain ⟨hp165, hp166, kq162⟩ := kq162
      have htx167 := TX_trans htx7 hp165
      have hts168 := TS_w hp6 hp165.2.2.1
      have htv169 := TV_tx htv8 hp165 ((hFq162 150 (by decide)))
      show pmE pg X pg_tyl pg_cl (d + 6) 207 41 [.ref 147, .int (f 4), .int rq2, pm_dead, pm_dead] [.int rq162] (md wc f163 A164) _
      refine pe_istore_n (j := 3) (ls' := [.ref 147, .int (f 4), .int rq2, .int rq162, pm_dead]) (by decide +kernel) (Nat.le_of_ble_eq_true rfl) rfl ?_
      refine pe_aload_n (j := 0) (by decide +kernel) rfl ?_
      refine pe_iload_n (j := 3) (by decide +kernel) rfl ?_
      refine pz_callV (j := 137) (mj := 212) (by decide +kernel) (cll_V (args := [.int rq162]) (n := 1) (by decide +kernel) rfl rfl (md_o hc) (by decide +kernel) (Nat.le_of_ble_eq_true rfl) (Nat.le_of_ble_eq_true rfl)) (NM_212 hc hIq162 htx167.2.2.2.2) (fun q170a q170b q170c q170d hqq170 => ?_)
      obtain ⟨f171, A172, rq170, eq170, hIq170, hGq170, hFq170, kq170⟩ := hqq170
      cases eq170
      refine ⟨rfl, rfl, ?_⟩
      obtain ⟨kfq170, kq170⟩ := kq170
      obtain ⟨hp173, hp174, kq170⟩ := kq170
      have htx175 := TX_trans htx167 hp173
      have hts176 := TS_w hts168 hp173.2.2.1
      have hge177 : rq162.toInt ≤ (f171 9).toInt := Int.le_trans hp166 hp173.2.2.2.1
      have htv178 := TV_tx htv169 hp173 ((hFq170 150 (by decide)))
      show pmE pg X pg_tyl pg_cl (d + 6) 207 47 [.ref 147, .int (f 4), .int rq2, .int rq162, pm_dead] [.int rq170] (md wc f171 A172) _
      refine pe_istore (j := 4) (ls' := [.ref 147, .int (f 4), .int rq2, .int rq162, .int rq170]) (by decide +kernel) (Nat.le_of_ble_eq_true rfl) rfl ?_
      refine pe_aload_n (j := 0) (by decide +kernel) rfl ?_
      refine pe_get (j := 17) (ci := 12) (n := 10) (by decide +kernel) (by decide +kernel) (md_o hc) rfl ?_
      refine pe_iconstv (n := 3) (v := 3) (by decide +kernel) (by decide +kernel) ?_
      refine pe_bipushv (n := 9) (v := 9) (by decide +kernel) (by decide +kernel) ?_
      refine pe_iload_n (j := 3) (by decide +kernel) rfl ?_
      refine pz_mul (by decide +kernel) kz_9 rfl (by omega) (by omega) (fun z179 hz179 => ?_)
      refine pz_add (by decide +kernel) kz_3 hz179 (by omega) (by omega) (fun z180 hz180 => ?_)
      clear hz179
      refine pe_iload (j := 4) (by decide +kernel) rfl ?_
      refine pz_add (by decide +kernel) hz180 rfl (by omega) (by omega) (fun z181 hz181 => ?_)
      clear hz180
      refine pe_aload_n (j := 0) (by decide +kernel) rfl ?_
      refine pe_iconstv (n := 0) (v := 0) (by decide +kernel) (by decide +kernel) ?_
      refine pe_bipushv (n := 99) (v := 99) (by decide +kernel) (by decide +kernel) ?_
      have hl182 := kz_0
      have hl183 := kz_99
      refine pz_callV (j := 130) (mj := 210) (by decide +kernel) (cll_V (args := [.int 99, .int 0]) (n := 2) (by decide +kernel) rfl rfl (md_o hc) (by decide +kernel) (Nat.le_of_ble_eq_true rfl) (Nat.le_of_ble_eq_true rfl)) (NM_210 hc hIq170 (by decide +kernel) (by decide +kernel) (by omega) htx175.2.2.2.2) (fun q184a q184b q184c q184d hqq184 => ?_)
      obtain ⟨f185, A186, rq184, eq184, hIq184, hGq184, hFq184, hX0q184, hX1q184, kq184⟩ := hqq184
      cases eq184
      refine ⟨rfl, rfl, ?_⟩
      obtain ⟨kfq184, kq184⟩ := kq184
      obtain ⟨hp187, hp188, kq184⟩ := kq184
      have htx189 := TX_trans htx175 hp187
      have hts190 := TS_w hts176 hp187.2.2.1
      have hge191 : rq162.toInt ≤ (f185 9).toInt := Int.le_trans hge177 hp187.2.2.2.1
      have hge192 : rq170.toInt ≤ (f185 9).toInt := Int.le_trans hp174 hp187.2.2.2.1
      have htv193 := TV_tx htv178 hp187 ((hFq184 150 (by decide)))
      show pmE pg X pg_tyl pg_cl (d + 6) 207 69 [.ref 147, .int (f 4), .int rq2, .int rq162, .int rq170] [.int rq184, .int z181, .ref 150] (md wc f185 A186) _
      refine mz_st150 (by decide +kernel) hc hIq184 hz181 (by omega) (by omega) (fun A194 eA194 hIA194 => ?_)
      refine pe_iload_n (j := 2) (by decide +kernel) rfl ?_
      refine pe_iconstv (n := 3) (v := 3) (by decide +kernel) (by decide +kernel) ?_
      refine pz_icmp_ne (off := 49) (t := 121) (by decide +kernel) (by decide) rfl rfl kz_3 (fun h195 => ?_) (fun h195 => by omega)
      refine pe_iload_n (j := 2) (by decide +kernel) rfl ?_
      refine pe_iconstv (n := 4) (v := 4) (by decide +kernel) (by decide +kernel) ?_
      refine pz_icmp_eq (off := 8) (t := 131) (by decide +kernel) (by decide) rfl rfl kz_4 (fun h196 => by omega) (fun h196 => ?_)
      refine pe_iload_n (j := 2) (by decide +kernel) rfl ?_
      refine pe_iconstv (n := 5) (v := 5) (by decide +kernel) (by decide +kernel) ?_
      refine pz_icmp_ne (off := 54) (t := 182) (by decide +kernel) (by decide) rfl rfl kz_5 (fun h197 => ?_) (fun h197 => by omega)
      refine pe_iload_n (j := 2) (by decide +kernel) rfl ?_
      refine pe_bipushv (n := 6) (v := 6) (by decide +kernel) (by decide +kernel) ?_
      refine pz_icmp_ne (off := 16) (t := 201) (by decide +kernel) (by decide) rfl rfl kz_6 (fun h198 => ?_) (fun h198 => by omega)
      refine pe_iload_n (j := 2) (by decide +kernel) rfl ?_
      refine pe_bipushv (n := 7) (v := 7) (by decide +kernel) (by decide +kernel) ?_
      refine pz_icmp_ne (off := 8) (t := 212) (by decide +kernel) (by decide) rfl rfl kz_7 (fun h199 => ?_) (fun h199 => by omega)
      refine pe_aload_n (j := 0) (by decide +kernel) rfl ?_
      have htv200 : TV (A194 150) (f185 9).toInt (fr (A194 148) 3) := by rw [upa_at eA194, upa_fr eA194 (by decide : (148 : Nat) ≠ 150)]; exact TV_set (i := ((3 + (9 * rq162.toInt)) + rq170.toInt)) htv193 (by omega) (by omega) (mlen_150 hIq184) (by unfold TVi; omega)
      have htx201 := TX_fr (f2 := f185) (A2 := A194) htx189 (rfl) (rfl) (rfl) (by rw [show f185 9 = f185 9 from rfl]; exact Int.le_refl _) (upa_fr eA194 (by decide))
      have hts202 := TS_w hts190 (Int.le_of_eq (ms_eq (rfl) (rfl) (rfl)).symm)
      refine pz_callV (j := 147) (mj := 214) (by decide +kernel) (cll_V (args := []) (n := 0) (by decide +kernel) rfl rfl (md_o hc) (by decide +kernel) (Nat.le_of_ble_eq_true rfl) (Nat.le_of_ble_eq_true rfl)) (NM_214 hc hIA194 htx201.2.2.2.2) (fun q203a q203b q203c q203d hqq203 => ?_)
      obtain ⟨f204, A205, eq203, hIq203, hGq203, hFq203, kq203⟩ := hqq203
      cases eq203
      refine ⟨rfl, rfl, ?_⟩
      obtain ⟨hp206, kq203⟩ := kq203
      have htx207 := TX_trans htx201 hp206
      have hts208 := TS_w hts202 hp206.2.2.1
      have hge209 : rq162.toInt ≤ (f204 9).toInt := Int.le_trans hge191 hp206.2.2.2.1
      have hge210 : rq170.toInt ≤ (f204 9).toInt := Int.le_trans hge192 hp206.2.2.2.1
      have htv211 := TV_tx htv200 hp206 ((hFq203 150 (by decide)))
      show pmE pg X pg_tyl pg_cl (d + 6) 207 216 [.ref 147, .int (f 4), .int rq2, .int rq162, .int rq170] [] (md wc f204 A205) _
      exact pe_vret (by decide +kernel) rfl ⟨f204, A205, rfl, hIq203, (fun k n3 n4 n5 n6 n7 n8 n9 => ((hGq203 k n3 n4 n5 n6 n7 n8)).trans (((hGq184 k n3 n4 n5 n6 n7 n8)).trans (((hGq170 k n3 n4 n5 n6 n7 n8 n9)).trans (((hGq162 k n3 n4 n5 n6 n7 n8 n9)).trans ((hGq2 k n3 n4 n5 n6 n7 n8)))))), (fun k n148 n150 => ((hFq203 k n148)).trans ((upa_fr eA194 n150).trans (((hFq184 k n148)).trans (((hFq170 k n148)).trans (((hFq162 k n148)).trans ((hFq2 k n148))))))), ⟨htx207, hts208, htv211, (by rw [show A205 150 = A194 150 from (hFq203 150 (by decide)), show fr (A194 150) 1 = fr (A186 150) 1 by rw [upa_at eA194, fr_ne (i := ((3 + (9 * rq162.toInt)) + rq170.toInt)) (by omega) (by decide) (by omega)], show A186 150 = A172 150 from (hFq184 150 (by decide)), show A172 150 = A164 150 from (hFq170 150 (by decide)), show A164 150 = A4 150 from (hFq162 150 (by decide)), show A4 150 = A 150 from (hFq2 150 (by decide))]; omega), trivial⟩⟩
  · skip
    refine pe_aload_n (j := 0) (by decide +kernel) rfl ?_
    refine pe_get (j := 17) (ci := 12) (n := 10) (by decide +kernel) (by decide +kernel) (md_o hc) rfl ?_
    refine pe_iconstv (n := 0) (v := 0) (by decide +kernel) (by decide +kernel) ?_
    refine pe_aload_n (j := 0) (by decide +kernel) rfl ?_
    refine pe_iconstv (n := 2) (v := 2) (by decide +kernel) (by decide +kernel) ?_
    refine pe_bipushv (n := 9) (v := 9) (by decide +kernel) (by decide +kernel) ?_
    have hl212 := kz_2
    have hl213 := kz_9
    refine pz_callV (j := 130) (mj := 210) (by decide +kernel) (cll_V (args := [.int 9, .int 2]) (n := 2) (by decide +kernel) rfl rfl (md_o hc) (by decide +kernel) (Nat.le_of_ble_eq_true rfl) (Nat.le_of_ble_eq_true rfl)) (NM_210 hc hIq2 (by decide +kernel) (by decide +kernel) (by omega) htx7.2.2.2.2) (fun q214a q214b q214c q214d hqq214 => ?_)
    obtain ⟨f215, A216, rq214, eq214, hIq214, hGq214, hFq214, hX0q214, hX1q214, kq214⟩ := hqq214
    cases eq214
    refine ⟨rfl, rfl, ?_⟩
    obtain ⟨kfq214, kq214⟩ := kq214
    obtain ⟨hp217, hp218, kq214⟩ := kq214
    have htx219 := TX_trans htx7 hp217
    have hts220 := TS_w hp6 hp217.2.2.1
    have htv221 := TV_tx htv8 hp217 ((hFq214 150 (by decide)))
    show pmE pg X pg_tyl pg_cl (d + 6) 207 30 [.ref 147, .int (f 4), .int rq2, pm_dead, pm_dead] [.int rq214, .int 0, .ref 150] (md wc f215 A216) _
    refine mz_st150 (by decide +kernel) hc hIq214 kz_0 (by omega) (by omega) (fun A222 eA222 hIA222 => ?_)
    refine pe_iload_n (j := 2) (by decide +kernel) rfl ?_
    refine pe_iconstv (n := 2) (v := 2) (by decide +kernel) (by decide +kernel) ?_
    refine pz_icmp_ne (off := 37) (t := 70) (by decide +kernel) (by decide) rfl rfl kz_2 (fun h223 => ?_) (fun h223 => by omega)
    refine pe_iload_n (j := 2) (by decide +kernel) rfl ?_
    refine pe_iconstv (n := 3) (v := 3) (by decide +kernel) (by decide +kernel) ?_
    refine pz_icmp_ne (off := 49) (t := 121) (by decide +kernel) (by decide) rfl rfl kz_3 (fun h224 => ?_) (fun h224 => by omega)
    refine pe_iload_n (j := 2) (by decide +kernel) rfl ?_
    refine pe_iconstv (n := 4) (v := 4) (by decide +kernel) (by decide +kernel) ?_
    refine pz_icmp_eq (off := 8) (t := 131) (by decide +kernel) (by decide) rfl rfl kz_4 (fun h225 => by omega) (fun h225 => ?_)
    refine pe_iload_n (j := 2) (by decide +kernel) rfl ?_
    refine pe_iconstv (n := 5) (v := 5) (by decide +kernel) (by decide +kernel) ?_
    refine pz_icmp_ne (off := 54) (t := 182) (by decide +kernel) (by decide) rfl rfl kz_5 (fun h226 => ?_) (fun h226 => by omega)
    refine pe_iload_n (j := 2) (by decide +kernel) rfl ?_
    refine pe_bipushv (n := 6) (v := 6) (by decide +kernel) (by decide +kernel) ?_
    refine pz_icmp_ne (off := 16) (t := 201) (by decide +kernel) (by decide) rfl rfl kz_6 (fun h227 => ?_) (fun h227 => by omega)
    refine pe_iload_n (j := 2) (by decide +kernel) rfl ?_
    refine pe_bipushv (n := 7) (v := 7) (by decide +kernel) (by decide +kernel) ?_
    refine pz_icmp_ne (off := 8) (t := 212) (by decide +kernel) (by decide) rfl rfl kz_7 (fun h228 => ?_) (fun h228 => by omega)
    refine pe_aload_n (j := 0) (by decide +kernel) rfl ?_
    have htv229 : TV (A222 150) (f215 9).toInt (fr (A222 148) 3) := by rw [upa_at eA222, upa_fr eA222 (by decide : (148 : Nat) ≠ 150)]; exact TV_set (i := 0) htv221 (by omega) (by omega) (mlen_150 hIq214) (by have hl230 := kz_0; unfold TVi; omega)
    have htx231 := TX_fr (f2 := f215) (A2 := A222) htx219 (rfl) (rfl) (rfl) (by rw [show f215 9 = f215 9 from rfl]; exact Int.le_refl _) (upa_fr eA222 (by decide))
    have hts232 := TS_w hts220 (Int.le_of_eq (ms_eq (rfl) (rfl) (rfl)).symm)
    refine pz_callV (j := 147) (mj := 214) (by decide +kernel) (cll_V (args := []) (n := 0) (by decide +kernel) rfl rfl (md_o hc) (by decide +kernel) (Nat.le_of_ble_eq_true rfl) (Nat.le_of_ble_eq_true rfl)) (NM_214 hc hIA222 htx231.2.2.2.2) (fun q233a q233b q233c q233d hqq233 => ?_)
    obtain ⟨f234, A235, eq233, hIq233, hGq233, hFq233, kq233⟩ := hqq233
    cases eq233
    refine ⟨rfl, rfl, ?_⟩
    obtain ⟨hp236, kq233⟩ := kq233
    have htx237 := TX_trans htx231 hp236
    have hts238 := TS_w hts232 hp236.2.2.1
    have htv239 := TV_tx htv229 hp236 ((hFq233 150 (by decide)))
    show pmE pg X pg_tyl pg_cl (d + 6) 207 216 [.ref 147, .int (f 4), .int rq2, pm_dead, pm_dead] [] (md wc f234 A235) _
    exact pe_vret (by decide +kernel) rfl ⟨f234, A235, rfl, hIq233, (fun k n3 n4 n5 n6 n7 n8 n9 => ((hGq233 k n3 n4 n5 n6 n7 n8)).trans (((hGq214 k n3 n4 n5 n6 n7 n8)).trans ((hGq2 k n3 n4 n5 n6 n7 n8)))), (fun k n148 n150 => ((hFq233 k n148)).trans ((upa_fr eA222 n150).trans (((hFq214 k n148)).trans ((hFq2 k n148))))), ⟨htx237, hts238, htv239, (by rw [show A235 150 = A222 150 from (hFq233 150 (by decide)), show fr (A222 150) 1 = fr (A216 150) 1 by rw [upa_at eA222, fr_ne (i := 0) (by omega) (by decide) (by omega)], show A216 150 = A4 150 from (hFq214 150 (by decide)), show A4 150 = A 150 from (hFq2 150 (by decide))]; omega), trivial⟩⟩
end
