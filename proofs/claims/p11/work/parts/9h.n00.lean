set_option maxRecDepth 100000 in
set_option maxHeartbeats 8000000 in
theorem NM_209 {X : pm_X} {d : Nat} {wc : pm_W} {f : Nat → Int32} {A : Nat → List Int32} (hc : wc.length = 147) (hI : MI f A) (hpp0 : JJ f A) : pmE pg X pg_tyl pg_cl (d) 209 0 (pm_ent (pm_max pg 209) [.ref 147]) [] (md wc f A) (fun q => ∃ (f' : Nat → Int32) (A' : Nat → List Int32), q = (none, md wc f' A', 0, 0) ∧ MI f' A' ∧ (∀ k : Nat, k ≠ 8 → f' k = f k) ∧ (∀ k : Nat, k ≠ 148 → A' k = A k) ∧ ((TX f f' A A' ∧ TS f f' ∧ fr (A' 148) 3 ≠ 0 ∧ True))) := by
  show pmE pg X pg_tyl pg_cl (d) 209 0 [.ref 147] [] (md wc f A) _
  refine pe_aload_n (j := 0) (by decide +kernel) rfl ?_
  refine pe_get (j := 112) (ci := 12) (n := 8) (by decide +kernel) (by decide +kernel) (md_o hc) rfl ?_
  have hr_f_8 := mf_8 hI
  refine pz_if_eq (off := 4) (t := 8) (by decide +kernel) (by decide) rfl rfl (fun h1 => ?_) (fun h1 => ?_)
  · skip
    refine pe_aload_n (j := 0) (by decide +kernel) rfl ?_
    refine pe_iconstv (n := 1) (v := 1) (by decide +kernel) (by decide +kernel) ?_
    refine mz_put8 (jj := 112) (by decide +kernel) (by decide +kernel) hc hI (by decide +kernel) (by decide +kernel) (by decide +kernel) (fun f2 ef2 hIf2 => ?_)
    refine pe_aload_n (j := 0) (by decide +kernel) rfl ?_
    refine pe_get (j := 7) (ci := 12) (n := 0) (by decide +kernel) (by decide +kernel) (md_o hc) rfl ?_
    refine pe_iconstv (n := 3) (v := 3) (by decide +kernel) (by decide +kernel) ?_
    refine pe_iconstv (n := 1) (v := 1) (by decide +kernel) (by decide +kernel) ?_
    refine mz_st148 (by decide +kernel) hc hIf2 kz_3 (by omega) (by omega) (by rw [kz_1]; simp only [MT]; omega) (fun A3 eA3 hIA3 => ?_)
    refine pe_aload_n (j := 0) (by decide +kernel) rfl ?_
    refine pe_get (j := 7) (ci := 12) (n := 0) (by decide +kernel) (by decide +kernel) (md_o hc) rfl ?_
    refine pe_iconstv (n := 4) (v := 4) (by decide +kernel) (by decide +kernel) ?_
    refine pe_aload_n (j := 0) (by decide +kernel) rfl ?_
    refine pe_get (j := 90) (ci := 12) (n := 4) (by decide +kernel) (by decide +kernel) (md_o hc) rfl ?_
    refine pe_top (v := (f 4)) (upf_fr ef2 (by decide)) ?_
    refine mz_st148 (by decide +kernel) hc hIA3 kz_4 (by omega) (by omega) (by simp only [MT]; omega) (fun A4 eA4 hIA4 => ?_)
    have hen5 := TX_ends (v := 1) ef2 kz_1 (by omega) eA3 eA4 (mlen_148 hI) (by decide +kernel)
    have hft6 := set3_ne eA3 eA4 (mlen_148 hI) (v := 1) (by decide +kernel)
    exact pe_vret (by decide +kernel) rfl ⟨f2, A4, rfl, hIA4, (fun k n8 => upf_fr ef2 n8), (fun k n148 => (upa_fr eA4 n148).trans (upa_fr eA3 n148)), ⟨hen5.1, hen5.2, hft6, trivial⟩⟩
  · skip
    have hft7 : fr (A 148) 3 ≠ 0 := hpp0 (by omega)
    have hts8 : TS f f := fun h => absurd h (by omega)
    have htx9 : TX f f A A := TX_refl hpp0
    exact pe_vret (by decide +kernel) rfl ⟨f, A, rfl, hI, (fun k n8 => rfl), (fun k n148 => rfl), ⟨htx9, hts8, hft7, trivial⟩⟩
set_option maxRecDepth 100000 in
set_option maxHeartbeats 8000000 in
theorem NM_211 {X : pm_X} {d : Nat} {wc : pm_W} {f : Nat → Int32} {A : Nat → List Int32} {x1 x2 : Int32} (hc : wc.length = 147) (hI : MI f A) (gx1 : (1 ≤ x1.toInt ∧ x1.toInt ≤ 4)) (hpp0 : JJ f A) : pmE pg X pg_tyl pg_cl (d) 211 0 (pm_ent (pm_max pg 211) [.ref 147, .int x1, .int x2]) [] (md wc f A) (fun q => ∃ (A' : Nat → List Int32), q = (none, md wc f A', 0, 0) ∧ MI f A' ∧ (∀ k : Nat, k ≠ 148 → A' k = A k) ∧ ((TX f f A A' ∧ fr (A' 148) 3 ≠ 0 ∧ True))) := by
  show pmE pg X pg_tyl pg_cl (d) 211 0 [.ref 147, .int x1, .int x2] [] (md wc f A) _
  refine pe_aload_n (j := 0) (by decide +kernel) rfl ?_
  refine pe_get (j := 112) (ci := 12) (n := 8) (by decide +kernel) (by decide +kernel) (md_o hc) rfl ?_
  have hr_f_8 := mf_8 hI
  refine pz_if_ne (off := 42) (t := 46) (by decide +kernel) (by decide) rfl rfl (fun h1 => ?_) (fun h1 => ?_)
  · skip
    have hft2 : fr (A 148) 3 ≠ 0 := hpp0 (by have h8 := mf_8 hI; omega)
    have htx3 : TX f f A A := TX_refl hpp0
    exact pe_vret (by decide +kernel) rfl ⟨A, rfl, hI, (fun k n148 => rfl), ⟨htx3, hft2, trivial⟩⟩
  · skip
    refine pe_aload_n (j := 0) (by decide +kernel) rfl ?_
    refine pe_get (j := 7) (ci := 12) (n := 0) (by decide +kernel) (by decide +kernel) (md_o hc) rfl ?_
    refine pe_iconstv (n := 3) (v := 3) (by decide +kernel) (by decide +kernel) ?_
    refine pz_iald (by decide +kernel) (md_a148 hc) (mlen_148 hI) kz_3 (by omega) (by omega) (fun v4 ev4 => ?_)
    have lw6 := zi_lo v4
    have uw6 := zi_hi v4
    refine pz_if_eq (off := 34) (t := 47) (by decide +kernel) (by decide) rfl rfl (fun h5 => ?_) (fun h5 => ?_)
    · skip
      refine pe_aload_n (j := 0) (by decide +kernel) rfl ?_
      refine pe_get (j := 7) (ci := 12) (n := 0) (by decide +kernel) (by decide +kernel) (md_o hc) rfl ?_
      refine pe_iconstv (n := 3) (v := 3) (by decide +kernel) (by decide +kernel) ?_
      refine pe_iload_n (j := 1) (by decide +kernel) rfl ?_
      refine mz_st148 (by decide +kernel) hc hI kz_3 (by omega) (by omega) (by simp only [MT]; omega) (fun A7 eA7 hIA7 => ?_)
      refine pe_aload_n (j := 0) (by decide +kernel) rfl ?_
      refine pe_get (j := 7) (ci := 12) (n := 0) (by decide +kernel) (by decide +kernel) (md_o hc) rfl ?_
      refine pe_iconstv (n := 4) (v := 4) (by decide +kernel) (by decide +kernel) ?_
      refine pe_iload_n (j := 2) (by decide +kernel) rfl ?_
      refine mz_st148 (by decide +kernel) hc hIA7 kz_4 (by omega) (by omega) (by simp only [MT]; omega) (fun A8 eA8 hIA8 => ?_)
      have htx9 : TX f f A A := TX_refl hpp0
      have htx10 := TX_set (TX_set htx9 eA7 (mlen_148 hI) (by decide) (fun _ => by omega)) eA8 (mlen_148 hIA7) (by decide) (fun h => absurd h (by decide))
      have hft11 := set3_ne eA7 eA8 (mlen_148 hI) (v := x1) (by omega)
      exact pe_vret (by decide +kernel) rfl ⟨A8, rfl, hIA8, (fun k n148 => (upa_fr eA8 n148).trans (upa_fr eA7 n148)), ⟨htx10, hft11, trivial⟩⟩
    · skip
      refine pe_aload_n (j := 0) (by decide +kernel) rfl ?_
      refine pe_get (j := 7) (ci := 12) (n := 0) (by decide +kernel) (by decide +kernel) (md_o hc) rfl ?_
      refine pe_iconstv (n := 4) (v := 4) (by decide +kernel) (by decide +kernel) ?_
      refine pz_iald (by decide +kernel) (md_a148 hc) (mlen_148 hI) kz_4 (by omega) (by omega) (fun v12 ev12 => ?_)
      refine pe_iload_n (j := 2) (by decide +kernel) rfl ?_
      have lw14 := zi_lo v12
      have uw14 := zi_hi v12
      have lw15 := zi_lo x2
      have uw15 := zi_hi x2
      refine pz_icmp_lt (off := 23) (t := 46) (by decide +kernel) (by decide) rfl rfl rfl (fun h13 => ?_) (fun h13 => ?_)
      · skip
        have hft16 : fr (A 148) 3 ≠ 0 := by rw [(show fr (A 148) (3) = v4.toInt from congrArg Int32.toInt ev4.symm)]; omega
        have htx17 : TX f f A A := TX_refl hpp0
        exact pe_vret (by decide +kernel) rfl ⟨A, rfl, hI, (fun k n148 => rfl), ⟨htx17, hft16, trivial⟩⟩
      · skip
        refine pe_aload_n (j := 0) (by decide +kernel) rfl ?_
        refine pe_get (j := 7) (ci := 12) (n := 0) (by decide +kernel) (by decide +kernel) (md_o hc) rfl ?_
        refine pe_iconstv (n := 4) (v := 4) (by decide +kernel) (by decide +kernel) ?_
        refine pz_iald (by decide +kernel) (md_a148 hc) (mlen_148 hI) kz_4 (by omega) (by omega) (fun v18 ev18 => ?_)
        rw [ev18.trans ev12.symm]
        clear ev18 v18
        refine pe_iload_n (j := 2) (by decide +kernel) rfl ?_
        refine pz_icmp_ne (off := 14) (t := 47) (by decide +kernel) (by decide) rfl rfl rfl (fun h19 => ?_) (fun h19 => ?_)
        · skip
          refine pe_aload_n (j := 0) (by decide +kernel) rfl ?_
          refine pe_get (j := 7) (ci := 12) (n := 0) (by decide +kernel) (by decide +kernel) (md_o hc) rfl ?_
          refine pe_iconstv (n := 3) (v := 3) (by decide +kernel) (by decide +kernel) ?_
          refine pe_iload_n (j := 1) (by decide +kernel) rfl ?_
          refine mz_st148 (by decide +kernel) hc hI kz_3 (by omega) (by omega) (by simp only [MT]; omega) (fun A20 eA20 hIA20 => ?_)
          refine pe_aload_n (j := 0) (by decide +kernel) rfl ?_
          refine pe_get (j := 7) (ci := 12) (n := 0) (by decide +kernel) (by decide +kernel) (md_o hc) rfl ?_
          refine pe_iconstv (n := 4) (v := 4) (by decide +kernel) (by decide +kernel) ?_
          refine pe_iload_n (j := 2) (by decide +kernel) rfl ?_
          refine mz_st148 (by decide +kernel) hc hIA20 kz_4 (by omega) (by omega) (by simp only [MT]; omega) (fun A21 eA21 hIA21 => ?_)
          have htx22 : TX f f A A := TX_refl hpp0
          have htx23 := TX_set (TX_set htx22 eA20 (mlen_148 hI) (by decide) (fun _ => by omega)) eA21 (mlen_148 hIA20) (by decide) (fun h => absurd h (by decide))
          have hft24 := set3_ne eA20 eA21 (mlen_148 hI) (v := x1) (by omega)
          exact pe_vret (by decide +kernel) rfl ⟨A21, rfl, hIA21, (fun k n148 => (upa_fr eA21 n148).trans (upa_fr eA20 n148)), ⟨htx23, hft24, trivial⟩⟩
        · skip
          refine pe_aload_n (j := 0) (by decide +kernel) rfl ?_
          refine pe_get (j := 7) (ci := 12) (n := 0) (by decide +kernel) (by decide +kernel) (md_o hc) rfl ?_
          refine pe_iconstv (n := 3) (v := 3) (by decide +kernel) (by decide +kernel) ?_
          refine pz_iald (by decide +kernel) (md_a148 hc) (mlen_148 hI) kz_3 (by omega) (by omega) (fun v25 ev25 => ?_)
          rw [ev25.trans ev4.symm]
          clear ev25 v25
          refine pe_iload_n (j := 1) (by decide +kernel) rfl ?_
          refine pz_icmp_gt (off := 4) (t := 47) (by decide +kernel) (by decide) rfl rfl rfl (fun h26 => ?_) (fun h26 => ?_)
          · skip
            refine pe_aload_n (j := 0) (by decide +kernel) rfl ?_
            refine pe_get (j := 7) (ci := 12) (n := 0) (by decide +kernel) (by decide +kernel) (md_o hc) rfl ?_
            refine pe_iconstv (n := 3) (v := 3) (by decide +kernel) (by decide +kernel) ?_
            refine pe_iload_n (j := 1) (by decide +kernel) rfl ?_
            refine mz_st148 (by decide +kernel) hc hI kz_3 (by omega) (by omega) (by simp only [MT]; omega) (fun A27 eA27 hIA27 => ?_)
            refine pe_aload_n (j := 0) (by decide +kernel) rfl ?_
            refine pe_get (j := 7) (ci := 12) (n := 0) (by decide +kernel) (by decide +kernel) (md_o hc) rfl ?_
            refine pe_iconstv (n := 4) (v := 4) (by decide +kernel) (by decide +kernel) ?_
            refine pe_iload_n (j := 2) (by decide +kernel) rfl ?_
            refine mz_st148 (by decide +kernel) hc hIA27 kz_4 (by omega) (by omega) (by simp only [MT]; omega) (fun A28 eA28 hIA28 => ?_)
            have htx29 : TX f f A A := TX_refl hpp0
            have htx30 := TX_set (TX_set htx29 eA27 (mlen_148 hI) (by decide) (fun _ => by omega)) eA28 (mlen_148 hIA27) (by decide) (fun h => absurd h (by decide))
            have hft31 := set3_ne eA27 eA28 (mlen_148 hI) (v := x1) (by omega)
            exact pe_vret (by decide +kernel) rfl ⟨A28, rfl, hIA28, (fun k n148 => (upa_fr eA28 n148).trans (upa_fr eA27 n148)), ⟨htx30, hft31, trivial⟩⟩
          · skip
            have hft32 : fr (A 148) 3 ≠ 0 := by rw [(show fr (A 148) (3) = v4.toInt from congrArg Int32.toInt ev4.symm)]; omega
            have htx33 : TX f f A A := TX_refl hpp0
            exact pe_vret (by decide +kernel) rfl ⟨A, rfl, hI, (fun k n148 => rfl), ⟨htx33, hft32, trivial⟩⟩
set_option maxRecDepth 100000 in
set_option maxHeartbeats 8000000 in
theorem NM_210 {X : pm_X} {d : Nat} {wc : pm_W} {f : Nat → Int32} {A : Nat → List Int32} {x1 x2 : Int32} (hc : wc.length = 147) (hI : MI f A) (gx1 : (0 ≤ x1.toInt ∧ x1.toInt ≤ 2)) (gx2 : (8 ≤ x2.toInt ∧ x2.toInt ≤ 100)) (hxp0 : (x1.toInt + (-1) * x2.toInt) ≤ 0) (hpp0 : JJ f A) : pmE pg X pg_tyl pg_cl (d + 3) 210 0 (pm_ent (pm_max pg 210) [.ref 147, .int x1, .int x2]) [] (md wc f A) (fun q => ∃ (f' : Nat → Int32) (A' : Nat → List Int32) (r : Int32), q = (some (.int r), md wc f' A', 0, 0) ∧ MI f' A' ∧ (∀ k : Nat, k ≠ 3 → k ≠ 4 → k ≠ 5 → k ≠ 6 → k ≠ 7 → k ≠ 8 → f' k = f k) ∧ (∀ k : Nat, k ≠ 148 → A' k = A k) ∧ ((-1) * r.toInt + x1.toInt) ≤ 0 ∧ (r.toInt + (-1) * x2.toInt) ≤ 0 ∧ (((0 ≤ r.toInt ∧ r.toInt ≤ 100) ∧ TX f f' A A' ∧ TS f f' ∧ True))) := by
  show pmE pg X pg_tyl pg_cl (d + 3) 210 0 [.ref 147, .int x1, .int x2, pm_dead] [] (md wc f A) _
  refine pe_aload_n (j := 0) (by decide +kernel) rfl ?_
  refine pe_get (j := 112) (ci := 12) (n := 8) (by decide +kernel) (by decide +kernel) (md_o hc) rfl ?_
  have hr_f_8 := mf_8 hI
  refine pz_if_ne (off := 11) (t := 15) (by decide +kernel) (by decide) rfl rfl (fun h1 => ?_) (fun h1 => ?_)
  · skip
    refine pe_aload_n (j := 0) (by decide +kernel) rfl ?_
    have htx2 : TX f f A A := TX_refl hpp0
    refine pz_callV (j := 116) (mj := 209) (by decide +kernel) (cll_V (args := []) (n := 0) (by decide +kernel) rfl rfl (md_o hc) (by decide +kernel) (Nat.le_of_ble_eq_true rfl) (Nat.le_of_ble_eq_true rfl)) (NM_209 hc hI htx2.2.2.2.2) (fun q3a q3b q3c q3d hqq3 => ?_)
    obtain ⟨f4, A5, eq3, hIq3, hGq3, hFq3, kq3⟩ := hqq3
    cases eq3
    refine ⟨rfl, rfl, ?_⟩
    obtain ⟨hp6, hp7, hp8, kq3⟩ := kq3
    have htx9 := TX_trans htx2 hp6
    show pmE pg X pg_tyl pg_cl (d + 3) 210 19 [.ref 147, .int x1, .int x2, pm_dead] [] (md wc f4 A5) _
    refine pe_iload_n (j := 1) (by decide +kernel) rfl ?_
    exact pe_iret (by decide +kernel) rfl rfl ⟨f4, A5, x1, rfl, hIq3, (fun k n3 n4 n5 n6 n7 n8 => (hGq3 k n8)), (fun k n148 => (hFq3 k n148)), (by omega), (by omega), ⟨(by omega), htx9, hp7, trivial⟩⟩
  · skip
    refine pe_aload_n (j := 0) (by decide +kernel) rfl ?_
    refine pe_get (j := 93) (ci := 12) (n := 5) (by decide +kernel) (by decide +kernel) (md_o hc) rfl ?_
    have hr_f_5 := mf_5 hI
    refine pe_iconstv (n := 1) (v := 1) (by decide +kernel) (by decide +kernel) ?_
    refine pz_icmp_eq (off := 9) (t := 21) (by decide +kernel) (by decide) rfl rfl kz_1 (fun h10 => ?_) (fun h10 => ?_)
    · skip
      refine pe_aload_n (j := 0) (by decide +kernel) rfl ?_
      refine pe_get (j := 109) (ci := 12) (n := 6) (by decide +kernel) (by decide +kernel) (md_o hc) rfl ?_
      refine pe_istore_n (j := 3) (ls' := [.ref 147, .int x1, .int x2, .int (f 6)]) (by decide +kernel) (Nat.le_of_ble_eq_true rfl) rfl ?_
      refine pe_iload_n (j := 3) (by decide +kernel) rfl ?_
      refine pe_iload_n (j := 1) (by decide +kernel) rfl ?_
      refine pe_iload_n (j := 2) (by decide +kernel) rfl ?_
      refine pi_S (j := 119) (mj := 199) (by decide +kernel) (by decide +kernel) rfl ?_
      show pmE pg X pg_tyl pg_cl (d + 2) 199 0 [.int (f 6), .int x1, .int x2] [] (md wc f A) _
      refine pe_iload_n (j := 0) (by decide +kernel) rfl ?_
      refine pe_iload_n (j := 1) (by decide +kernel) rfl ?_
      have lw12 := zi_lo (f 6)
      have uw12 := zi_hi (f 6)
      refine pz_icmp_lt (off := 12) (t := 14) (by decide +kernel) (by decide) rfl rfl rfl (fun h11 => ?_) (fun h11 => ?_)
      · skip
        refine pe_iconstv (n := 0) (v := 0) (by decide +kernel) (by decide +kernel) ?_
        refine pe_iret (by decide +kernel) rfl rfl ⟨rfl, rfl, ?_⟩
        show pmE pg X pg_tyl pg_cl (d + 3) 210 32 [.ref 147, .int x1, .int x2, .int (f 6)] [.int 0] (md wc f A) _
        refine pz_if_ne (off := 12) (t := 44) (by decide +kernel) (by decide) rfl kz_0 (fun h13 => by omega) (fun h13 => ?_)
        refine pe_aload_n (j := 0) (by decide +kernel) rfl ?_
        refine pe_iconstv (n := 2) (v := 2) (by decide +kernel) (by decide +kernel) ?_
        refine pe_aload_n (j := 0) (by decide +kernel) rfl ?_
        refine pe_get (j := 90) (ci := 12) (n := 4) (by decide +kernel) (by decide +kernel) (md_o hc) rfl ?_
        have htx14 : TX f f A A := TX_refl hpp0
        refine pz_callV (j := 123) (mj := 211) (by decide +kernel) (cll_V (args := [.int (f 4), .int 2]) (n := 2) (by decide +kernel) rfl rfl (md_o hc) (by decide +kernel) (Nat.le_of_ble_eq_true rfl) (Nat.le_of_ble_eq_true rfl)) (NM_211 hc hI (by decide +kernel) htx14.2.2.2.2) (fun q15a q15b q15c q15d hqq15 => ?_)
        obtain ⟨A16, eq15, hIq15, hFq15, kq15⟩ := hqq15
        cases eq15
        refine ⟨rfl, rfl, ?_⟩
        obtain ⟨hp17, hp18, kq15⟩ := kq15
        have htx19 := TX_trans htx14 hp17
        show pmE pg X pg_tyl pg_cl (d + 3) 210 44 [.ref 147, .int x1, .int x2, .int (f 6)] [] (md wc f A16) _
        refine pe_aload_n (j := 0) (by decide +kernel) rfl ?_
        have hr_f_3 := mf_3 hIq15
        refine pz_callV (j := 127) (mj := 201) (by decide +kernel) (cll_V (args := []) (n := 0) (by decide +kernel) rfl rfl (md_o hc) (by decide +kernel) (Nat.le_of_ble_eq_true rfl) (Nat.le_of_ble_eq_true rfl)) (MM_201 hc hIq15) (fun q20a q20b q20c q20d hqq20 => ?_)
        obtain ⟨f21, eq20, hIq20, hGq20, hX0q20, kq20⟩ := hqq20
        cases eq20
        refine ⟨rfl, rfl, ?_⟩
        have hr_f21_5 := mf_5 hIq20
        have hr_f21_3 := mf_3 hIq20
        show pmE pg X pg_tyl pg_cl (d + 3) 210 48 [.ref 147, .int x1, .int x2, .int (f 6)] [] (md wc f21 A16) _
        have htx22 := TX_adv htx19 (by omega) ((hGq20 8 (by decide) (by decide) (by decide) (by decide) (by decide))) ((hGq20 9 (by decide) (by decide) (by decide) (by decide) (by decide))) (mf_5 hIq15).1
        have hts23 := TS_adv (by omega) ((hGq20 8 (by decide) (by decide) (by decide) (by decide) (by decide))) (by omega)
        refine pe_iload_n (j := 3) (by decide +kernel) rfl ?_
        refine pe_iload_n (j := 1) (by decide +kernel) rfl ?_
        refine pe_iload_n (j := 2) (by decide +kernel) rfl ?_
        refine pi_S (j := 119) (mj := 199) (by decide +kernel) (by decide +kernel) rfl ?_
        show pmE pg X pg_tyl pg_cl (d + 2) 199 0 [.int (f 6), .int x1, .int x2] [] (md wc f21 A16) _
        refine pe_iload_n (j := 0) (by decide +kernel) rfl ?_
        refine pe_iload_n (j := 1) (by decide +kernel) rfl ?_
        refine pz_icmp_lt (off := 12) (t := 14) (by decide +kernel) (by decide) rfl rfl rfl (fun h24 => ?_) (fun h24 => by omega)
        refine pe_iconstv (n := 0) (v := 0) (by decide +kernel) (by decide +kernel) ?_
        refine pe_iret (by decide +kernel) rfl rfl ⟨rfl, rfl, ?_⟩
        show pmE pg X pg_tyl pg_cl (d + 3) 210 54 [.ref 147, .int x1, .int x2, .int (f 6)] [.int 0] (md wc f21 A16) _
        refine pz_if_eq (off := 7) (t := 61) (by decide +kernel) (by decide) rfl kz_0 (fun h25 => ?_) (fun h25 => by omega)
        refine pe_iload_n (j := 1) (by decide +kernel) rfl ?_
        exact pe_iret (by decide +kernel) rfl rfl ⟨f21, A16, x1, rfl, hIq20, (fun k n3 n4 n5 n6 n7 n8 => (hGq20 k n3 n4 n5 n6 n7)), (fun k n148 => (hFq15 k n148)), (by omega), (by omega), ⟨(by omega), htx22, hts23, trivial⟩⟩
      · skip
        refine pe_iload_n (j := 0) (by decide +kernel) rfl ?_
        refine pe_iload_n (j := 2) (by decide +kernel) rfl ?_
        refine pz_icmp_gt (off := 7) (t := 14) (by decide +kernel) (by decide) rfl rfl rfl (fun h26 => ?_) (fun h26 => ?_)
        · skip
          refine pe_iconstv (n := 0) (v := 0) (by decide +kernel) (by decide +kernel) ?_
          refine pe_iret (by decide +kernel) rfl rfl ⟨rfl, rfl, ?_⟩
          show pmE pg X pg_tyl pg_cl (d + 3) 210 32 [.ref 147, .int x1, .int x2, .int (f 6)] [.int 0] (md wc f A) _
          refine pz_if_ne (off := 12) (t := 44) (by decide +kernel) (by decide) rfl kz_0 (fun h27 => by omega) (fun h27 => ?_)
          refine pe_aload_n (j := 0) (by decide +kernel) rfl ?_
          refine pe_iconstv (n := 2) (v := 2) (by decide +kernel) (by decide +kernel) ?_
          refine pe_aload_n (j := 0) (by decide +kernel) rfl ?_
          refine pe_get (j := 90) (ci := 12) (n := 4) (by decide +kernel) (by decide +kernel) (md_o hc) rfl ?_
          have htx28 : TX f f A A := TX_refl hpp0
          refine pz_callV (j := 123) (mj := 211) (by decide +kernel) (cll_V (args := [.int (f 4), .int 2]) (n := 2) (by decide +kernel) rfl rfl (md_o hc) (by decide +kernel) (Nat.le_of_ble_eq_true rfl) (Nat.le_of_ble_eq_true rfl)) (NM_211 hc hI (by decide +kernel) htx28.2.2.2.2) (fun q29a q29b q29c q29d hqq29 => ?_)
          obtain ⟨A30, eq29, hIq29, hFq29, kq29⟩ := hqq29
          cases eq29
          refine ⟨rfl, rfl, ?_⟩
          obtain ⟨hp31, hp32, kq29⟩ := kq29
          have htx33 := TX_trans htx28 hp31
          show pmE pg X pg_tyl pg_cl (d + 3) 210 44 [.ref 147, .int x1, .int x2, .int (f 6)] [] (md wc f A30) _
          refine pe_aload_n (j := 0) (by decide +kernel) rfl ?_
          have hr_f_3 := mf_3 hIq29
          refine pz_callV (j := 127) (mj := 201) (by decide +kernel) (cll_V (args := []) (n := 0) (by decide +kernel) rfl rfl (md_o hc) (by decide +kernel) (Nat.le_of_ble_eq_true rfl) (Nat.le_of_ble_eq_true rfl)) (MM_201 hc hIq29) (fun q34a q34b q34c q34d hqq34 => ?_)
          obtain ⟨f35, eq34, hIq34, hGq34, hX0q34, kq34⟩ := hqq34
          cases eq34
          refine ⟨rfl, rfl, ?_⟩
          have hr_f35_5 := mf_5 hIq34
          have hr_f35_3 := mf_3 hIq34
          show pmE pg X pg_tyl pg_cl (d + 3) 210 48 [.ref 147, .int x1, .int x2, .int (f 6)] [] (md wc f35 A30) _
          have htx36 := TX_adv htx33 (by omega) ((hGq34 8 (by decide) (by decide) (by decide) (by decide) (by decide))) ((hGq34 9 (by decide) (by decide) (by decide) (by decide) (by decide))) (mf_5 hIq29).1
          have hts37 := TS_adv (by omega) ((hGq34 8 (by decide) (by decide) (by decide) (by decide) (by decide))) (by omega)
          refine pe_iload_n (j := 3) (by decide +kernel) rfl ?_
          refine pe_iload_n (j := 1) (by decide +kernel) rfl ?_
          refine pe_iload_n (j := 2) (by decide +kernel) rfl ?_
          refine pi_S (j := 119) (mj := 199) (by decide +kernel) (by decide +kernel) rfl ?_
          show pmE pg X pg_tyl pg_cl (d + 2) 199 0 [.int (f 6), .int x1, .int x2] [] (md wc f35 A30) _
          refine pe_iload_n (j := 0) (by decide +kernel) rfl ?_
          refine pe_iload_n (j := 1) (by decide +kernel) rfl ?_
          refine pz_icmp_lt (off := 12) (t := 14) (by decide +kernel) (by decide) rfl rfl rfl (fun h38 => by omega) (fun h38 => ?_)
          refine pe_iload_n (j := 0) (by decide +kernel) rfl ?_
          refine pe_iload_n (j := 2) (by decide +kernel) rfl ?_
          refine pz_icmp_gt (off := 7) (t := 14) (by decide +kernel) (by decide) rfl rfl rfl (fun h39 => ?_) (fun h39 => ?_)
          · skip
            refine pe_iconstv (n := 0) (v := 0) (by decide +kernel) (by decide +kernel) ?_
            refine pe_iret (by decide +kernel) rfl rfl ⟨rfl, rfl, ?_⟩
            show pmE pg X pg_tyl pg_cl (d + 3) 210 54 [.ref 147, .int x1, .int x2, .int (f 6)] [.int 0] (md wc f35 A30) _
            refine pz_if_eq (off := 7) (t := 61) (by decide +kernel) (by decide) rfl kz_0 (fun h40 => ?_) (fun h40 => by omega)
            refine pe_iload_n (j := 1) (by decide +kernel) rfl ?_
            exact pe_iret (by decide +kernel) rfl rfl ⟨f35, A30, x1, rfl, hIq34, (fun k n3 n4 n5 n6 n7 n8 => (hGq34 k n3 n4 n5 n6 n7)), (fun k n148 => (hFq29 k n148)), (by omega), (by omega), ⟨(by omega), htx36, hts37, trivial⟩⟩
          · skip
            refine pe_iconstv (n := 1) (v := 1) (by decide +kernel) (by decide +kernel) ?_
            refine pe_goto (off := 4) (t := 15) (by decide +kernel) (by decide) rfl ?_
            refine pe_iret (by decide +kernel) rfl rfl ⟨rfl, rfl, ?_⟩
            show pmE pg X pg_tyl pg_cl (d + 3) 210 54 [.ref 147, .int x1, .int x2, .int (f 6)] [.int 1] (md wc f35 A30) _
            refine pz_if_eq (off := 7) (t := 61) (by decide +kernel) (by decide) rfl kz_1 (fun h41 => by omega) (fun h41 => ?_)
            refine pe_iload_n (j := 3) (by decide +kernel) rfl ?_
            refine pe_goto (off := 4) (t := 62) (by decide +kernel) (by decide) rfl ?_
            exact pe_iret (by decide +kernel) rfl rfl ⟨f35, A30, (f 6), rfl, hIq34, (fun k n3 n4 n5 n6 n7 n8 => (hGq34 k n3 n4 n5 n6 n7)), (fun k n148 => (hFq29 k n148)), (by omega), (by omega), ⟨(by omega), htx36, hts37, trivial⟩⟩
        · skip
          refine pe_iconstv (n := 1) (v := 1) (by decide +kernel) (by decide +kernel) ?_
          refine pe_goto (off := 4) (t := 15) (by decide +kernel) (by decide) rfl ?_
          refine pe_iret (by decide +kernel) rfl rfl ⟨rfl, rfl, ?_⟩
          show pmE pg X pg_tyl pg_cl (d + 3) 210 32 [.ref 147, .int x1, .int x2, .int (f 6)] [.int 1] (md wc f A) _
          refine pz_if_ne (off := 12) (t := 44) (by decide +kernel) (by decide) rfl kz_1 (fun h42 => ?_) (fun h42 => by omega)
          refine pe_aload_n (j := 0) (by decide +kernel) rfl ?_
          have hr_f_3 := mf_3 hI
          refine pz_callV (j := 127) (mj := 201) (by decide +kernel) (cll_V (args := []) (n := 0) (by decide +kernel) rfl rfl (md_o hc) (by decide +kernel) (Nat.le_of_ble_eq_true rfl) (Nat.le_of_ble_eq_true rfl)) (MM_201 hc hI) (fun q43a q43b q43c q43d hqq43 => ?_)
          obtain ⟨f44, eq43, hIq43, hGq43, hX0q43, kq43⟩ := hqq43
          cases eq43
          refine ⟨rfl, rfl, ?_⟩
          have hr_f44_5 := mf_5 hIq43
          have hr_f44_3 := mf_3 hIq43
          show pmE pg X pg_tyl pg_cl (d + 3) 210 48 [.ref 147, .int x1, .int x2, .int (f 6)] [] (md wc f44 A) _
          have htx45 : TX f f A A := TX_refl hpp0
          have htx46 := TX_adv htx45 (by omega) ((hGq43 8 (by decide) (by decide) (by decide) (by decide) (by decide))) ((hGq43 9 (by decide) (by decide) (by decide) (by decide) (by decide))) (mf_5 hI).1
          have hts47 := TS_adv (by omega) ((hGq43 8 (by decide) (by decide) (by decide) (by decide) (by decide))) (by omega)
          refine pe_iload_n (j := 3) (by decide +kernel) rfl ?_
          refine pe_iload_n (j := 1) (by decide +kernel) rfl ?_
          refine pe_iload_n (j := 2) (by decide +kernel) rfl ?_
          refine pi_S (j := 119) (mj := 199) (by decide +kernel) (by decide +kernel) rfl ?_
          show pmE pg X pg_tyl pg_cl (d + 2) 199 0 [.int (f 6), .int x1, .int x2] [] (md wc f44 A) _
          refine pe_iload_n (j := 0) (by decide +kernel) rfl ?_
          refine pe_iload_n (j := 1) (by decide +kernel) rfl ?_
          refine pz_icmp_lt (off := 12) (t := 14) (by decide +kernel) (by decide) rfl rfl rfl (fun h48 => by omega) (fun h48 => ?_)
          refine pe_iload_n (j := 0) (by decide +kernel) rfl ?_
          refine pe_iload_n (j := 2) (by decide +kernel) rfl ?_
          refine pz_icmp_gt (off := 7) (t := 14) (by decide +kernel) (by decide) rfl rfl rfl (fun h49 => ?_) (fun h49 => ?_)
          · skip
            refine pe_iconstv (n := 0) (v := 0) (by decide +kernel) (by decide +kernel) ?_
            refine pe_iret (by decide +kernel) rfl rfl ⟨rfl, rfl, ?_⟩
            show pmE pg X pg_tyl pg_cl (d + 3) 210 54 [.ref 147, .int x1, .int x2, .int (f 6)] [.int 0] (md wc f44 A) _
            refine pz_if_eq (off := 7) (t := 61) (by decide +kernel) (by decide) rfl kz_0 (fun h50 => ?_) (fun h50 => by omega)
            refine pe_iload_n (j := 1) (by decide +kernel) rfl ?_
            exact pe_iret (by decide +kernel) rfl rfl ⟨f44, A, x1, rfl, hIq43, (fun k n3 n4 n5 n6 n7 n8 => (hGq43 k n3 n4 n5 n6 n7)), (fun k n148 => rfl), (by omega), (by omega), ⟨(by omega), htx46, hts47, trivial⟩⟩
          · skip
            refine pe_iconstv (n := 1) (v := 1) (by decide +kernel) (by decide +kernel) ?_
            refine pe_goto (off := 4) (t := 15) (by decide +kernel) (by decide) rfl ?_
            refine pe_iret (by decide +kernel) rfl rfl ⟨rfl, rfl, ?_⟩
            show pmE pg X pg_tyl pg_cl (d + 3) 210 54 [.ref 147, .int x1, .int x2, .int (f 6)] [.int 1] (md wc f44 A) _
            refine pz_if_eq (off := 7) (t := 61) (by decide +kernel) (by decide) rfl kz_1 (fun h51 => by omega) (fun h51 => ?_)
            refine pe_iload_n (j := 3) (by decide +kernel) rfl ?_
            refine pe_goto (off := 4) (t := 62) (by decide +kernel) (by decide) rfl ?_
            exact pe_iret (by decide +kernel) rfl rfl ⟨f44, A, (f 6), rfl, hIq43, (fun k n3 n4 n5 n6 n7 n8 => (hGq43 k n3 n4 n5 n6 n7)), (fun k n148 => rfl), (by omega), (by omega), ⟨(by omega), htx46, hts47, trivial⟩⟩
    · skip
      refine pe_aload_n (j := 0) (by decide +kernel) rfl ?_
      have htx52 : TX f f A A := TX_refl hpp0
      refine pz_callV (j := 116) (mj := 209) (by decide +kernel) (cll_V (args := []) (n := 0) (by decide +kernel) rfl rfl (md_o hc) (by decide +kernel) (Nat.le_of_ble_eq_true rfl) (Nat.le_of_ble_eq_true rfl)) (NM_209 hc hI htx52.2.2.2.2) (fun q53a q53b q53c q53d hqq53 => ?_)
      obtain ⟨f54, A55, eq53, hIq53, hGq53, hFq53, kq53⟩ := hqq53
      cases eq53
      refine ⟨rfl, rfl, ?_⟩
      obtain ⟨hp56, hp57, hp58, kq53⟩ := kq53
      have htx59 := TX_trans htx52 hp56
      show pmE pg X pg_tyl pg_cl (d + 3) 210 19 [.ref 147, .int x1, .int x2, pm_dead] [] (md wc f54 A55) _
      refine pe_iload_n (j := 1) (by decide +kernel) rfl ?_
      exact pe_iret (by decide +kernel) rfl rfl ⟨f54, A55, x1, rfl, hIq53, (fun k n3 n4 n5 n6 n7 n8 => (hGq53 k n8)), (fun k n148 => (hFq53 k n148)), (by omega), (by omega), ⟨(by omega), htx59, hp57, trivial⟩⟩
