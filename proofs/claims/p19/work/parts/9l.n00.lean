set_option maxRecDepth 100000 in
set_option maxHeartbeats 8000000 in
theorem NL_196_20 {X : pm_X} {d : Nat} {wc : pm_W} {Q : pm_R → Prop} {f : Nat → Int32} {A0 : Nat → List Int32} {x1 x2 x3 x4 x5 : Int32} (hc : wc.length = 147) (hpk0 : fr (A0 148) 2 ≤ 580) (k_122_0 : ∀ (A' : Nat → List Int32) (y6 : Int32) (v7 : Value), MI f A' → (∀ k : Nat, k ≠ 148 → A' k = A0 k) → (20 ≤ y6.toInt ∧ y6.toInt ≤ 20) → fr (A' 148) 2 = fr (A0 148) 2 + y6.toInt → KE A0 A' → pmE pg X pg_tyl pg_cl (d) 196 122 [.ref 147, .int x1, .int x2, .int x3, .int x4, .int x5, .int y6, v7] [] (md wc f A') Q) : ∀ (m : Nat) (A : Nat → List Int32) (x6 : Int32) (u7 : Value), MI f A → (∀ k : Nat, k ≠ 148 → A k = A0 k) → (0 ≤ x6.toInt ∧ x6.toInt ≤ 20) → fr (A 148) 2 = fr (A0 148) 2 + x6.toInt → KE A0 A → 20 - x6.toInt < (m : Int) → pmE pg X pg_tyl pg_cl (d) 196 20 [.ref 147, .int x1, .int x2, .int x3, .int x4, .int x5, .int x6, u7] [] (md wc f A) Q := by
  intro m
  induction m with
  | zero =>
    intro A x6 u7 hI hF gx6 hpi0 hpi1 hm
    exfalso
    have l0 := zi_lo x6
    have u0 := zi_hi x6
    omega
  | succ m ih =>
    intro A x6 u7 hI hF gx6 hpi0 hpi1 hm
    refine pe_iload (j := 6) (by decide +kernel) rfl ?_
    refine pe_bipushv (n := 20) (v := 20) (by decide +kernel) (by decide +kernel) ?_
    refine pz_icmp_ge (off := 98) (t := 122) (by decide +kernel) (by decide) rfl rfl kz_20 (fun h1 => ?_) (fun h1 => ?_)
    · skip
      exact k_122_0 A x6 (u7) hI (fun k n148 => (hF k n148)) (by omega) hpi0 hpi1
    · skip
      refine pe_iload (j := 6) (by decide +kernel) rfl ?_
      refine pe_iconstv (n := 4) (v := 4) (by decide +kernel) (by decide +kernel) ?_
      refine pz_icmp_ge (off := 7) (t := 37) (by decide +kernel) (by decide) rfl rfl kz_4 (fun h2 => ?_) (fun h2 => ?_)
      · skip
        refine pe_iload (j := 6) (by decide +kernel) rfl ?_
        refine pe_bipushv (n := 8) (v := 8) (by decide +kernel) (by decide +kernel) ?_
        refine pz_icmp_ge (off := 7) (t := 48) (by decide +kernel) (by decide) rfl rfl kz_8 (fun h3 => ?_) (fun h3 => ?_)
        · skip
          refine pe_iload (j := 6) (by decide +kernel) rfl ?_
          refine pe_bipushv (n := 12) (v := 12) (by decide +kernel) (by decide +kernel) ?_
          refine pz_icmp_ge (off := 7) (t := 59) (by decide +kernel) (by decide) rfl rfl kz_12 (fun h4 => ?_) (fun h4 => ?_)
          · skip
            refine pe_iload (j := 6) (by decide +kernel) rfl ?_
            refine pe_bipushv (n := 16) (v := 16) (by decide +kernel) (by decide +kernel) ?_
            refine pz_icmp_ge (off := 8) (t := 71) (by decide +kernel) (by decide) rfl rfl kz_16 (fun h5 => ?_) (fun h5 => ?_)
            · skip
              refine pe_iload (j := 5) (by decide +kernel) rfl ?_
              refine pe_istore (j := 7) (ls' := [.ref 147, .int x1, .int x2, .int x3, .int x4, .int x5, .int x6, .int x5]) (by decide +kernel) (Nat.le_of_ble_eq_true rfl) rfl ?_
              refine pe_aload_n (j := 0) (by decide +kernel) rfl ?_
              refine pe_get (j := 7) (ci := 12) (n := 0) (by decide +kernel) (by decide +kernel) (md_o hc) rfl ?_
              refine pe_bipushv (n := 10) (v := 10) (by decide +kernel) (by decide +kernel) ?_
              refine pe_aload_n (j := 0) (by decide +kernel) rfl ?_
              refine pe_get (j := 7) (ci := 12) (n := 0) (by decide +kernel) (by decide +kernel) (md_o hc) rfl ?_
              refine pe_iconstv (n := 2) (v := 2) (by decide +kernel) (by decide +kernel) ?_
              refine pz_iald (by decide +kernel) (md_a148 hc) (mlen_148 hI) kz_2 (by omega) (by omega) (fun v6 ev6 => ?_)
              have rv6 : 0 ≤ v6.toInt ∧ v6.toInt ≤ 600 := MT_c2 (mt_148 hI ev6 (by omega)) (by omega)
              have hb7 := hpi0
              rw [(show fr (A 148) (2) = v6.toInt from congrArg Int32.toInt ev6.symm)] at hb7
              have hb8 := hpk0
              refine pz_add (by decide +kernel) kz_10 rfl (by omega) (by omega) (fun z9 hz9 => ?_)
              refine pe_iload (j := 7) (by decide +kernel) rfl ?_
              refine pe_bipushv (n := 24) (v := 24) (by decide +kernel) (by decide +kernel) ?_
              refine pe_bipushv (n := 8) (v := 8) (by decide +kernel) (by decide +kernel) ?_
              refine pe_iload (j := 6) (by decide +kernel) rfl ?_
              refine pe_iconstv (n := 4) (v := 4) (by decide +kernel) (by decide +kernel) ?_
              refine pz_rem (by decide +kernel) rfl kz_4 (by omega) (by omega) (fun z10 hz10 gz10 kz10 => ?_)
              refine pz_mul (by decide +kernel) kz_8 rfl (by omega) (by omega) (fun z11 hz11 => ?_)
              refine pz_sub (by decide +kernel) kz_24 hz11 (by omega) (by omega) (fun z12 hz12 => ?_)
              clear hz11
              refine pw_shr (by decide +kernel) (fun z13 => ?_)
              clear hz12
              refine pe_sipushv (n := 255) (v := 255) (by decide +kernel) (by decide +kernel) ?_
              refine pz_and255 (by decide +kernel) (fun z14 hz14 => ?_)
              refine mz_st148 (by decide +kernel) hc hI hz9 (by omega) (by omega) (by simp only [MT]; omega) (fun A15 eA15 hIA15 => ?_)
              refine pe_aload_n (j := 0) (by decide +kernel) rfl ?_
              refine pe_get (j := 7) (ci := 12) (n := 0) (by decide +kernel) (by decide +kernel) (md_o hc) rfl ?_
              refine pe_iconstv (n := 2) (v := 2) (by decide +kernel) (by decide +kernel) ?_
              refine pe_dup2 (by decide +kernel) ⟨rfl, rfl⟩ ?_
              refine pz_iald (by decide +kernel) (md_a148 hc) (mlen_148 hIA15) kz_2 (by omega) (by omega) (fun v16 ev16 => ?_)
              have rv16 : 0 ≤ v16.toInt ∧ v16.toInt ≤ 600 := MT_c2 (mt_148 hIA15 ev16 (by omega)) (by omega)
              have hb17 : v16.toInt = v6.toInt := by rw [← (show fr (A15 148) (2) = v16.toInt from congrArg Int32.toInt ev16.symm), upa_at eA15, fr_ne (i := (10 + v6.toInt)) (by omega) (by decide) (by omega), (show fr (A 148) (2) = v6.toInt from congrArg Int32.toInt ev6.symm)]
              refine pe_iconstv (n := 1) (v := 1) (by decide +kernel) (by decide +kernel) ?_
              refine pz_add (by decide +kernel) rfl kz_1 (by omega) (by omega) (fun z18 hz18 => ?_)
              refine mz_st148 (by decide +kernel) hc hIA15 kz_2 (by omega) (by omega) (by simp only [MT]; omega) (fun A19 eA19 hIA19 => ?_)
              refine pz_iinc (j := 6) (n := 1) (by decide +kernel) rfl rfl (by decide +kernel) (by omega) (by omega) (fun z20 hz20 => ?_)
              show pmE pg X pg_tyl pg_cl (d) 196 119 [.ref 147, .int x1, .int x2, .int x3, .int x4, .int x5, .int z20, .int x5] [] (md wc f A19) _
              refine pe_goto (off := (-99)) (t := 20) (by decide +kernel) (by decide) rfl ?_
              exact ih A19 z20 (.int x5) hIA19 (fun k n148 => (upa_fr eA19 n148).trans ((upa_fr eA15 n148).trans ((hF k n148)))) (by omega) (by rw [hz20, upa_at eA19, fr_eq (by decide) (by rw [mlen_148 hIA15]; decide)]; omega) (KE_set (i := 2) (KE_set (i := (10 + v6.toInt)) hpi1 eA15 (by omega) (by omega)) eA19 (by omega) (by omega)) (by omega)
            · skip
              refine pe_iload (j := 4) (by decide +kernel) rfl ?_
              refine pe_goto (off := 5) (t := 73) (by decide +kernel) (by decide) rfl ?_
              refine pe_istore (j := 7) (ls' := [.ref 147, .int x1, .int x2, .int x3, .int x4, .int x5, .int x6, .int x4]) (by decide +kernel) (Nat.le_of_ble_eq_true rfl) rfl ?_
              refine pe_aload_n (j := 0) (by decide +kernel) rfl ?_
              refine pe_get (j := 7) (ci := 12) (n := 0) (by decide +kernel) (by decide +kernel) (md_o hc) rfl ?_
              refine pe_bipushv (n := 10) (v := 10) (by decide +kernel) (by decide +kernel) ?_
              refine pe_aload_n (j := 0) (by decide +kernel) rfl ?_
              refine pe_get (j := 7) (ci := 12) (n := 0) (by decide +kernel) (by decide +kernel) (md_o hc) rfl ?_
              refine pe_iconstv (n := 2) (v := 2) (by decide +kernel) (by decide +kernel) ?_
              refine pz_iald (by decide +kernel) (md_a148 hc) (mlen_148 hI) kz_2 (by omega) (by omega) (fun v21 ev21 => ?_)
              have rv21 : 0 ≤ v21.toInt ∧ v21.toInt ≤ 600 := MT_c2 (mt_148 hI ev21 (by omega)) (by omega)
              have hb22 := hpi0
              rw [(show fr (A 148) (2) = v21.toInt from congrArg Int32.toInt ev21.symm)] at hb22
              have hb23 := hpk0
              refine pz_add (by decide +kernel) kz_10 rfl (by omega) (by omega) (fun z24 hz24 => ?_)
              refine pe_iload (j := 7) (by decide +kernel) rfl ?_
              refine pe_bipushv (n := 24) (v := 24) (by decide +kernel) (by decide +kernel) ?_
              refine pe_bipushv (n := 8) (v := 8) (by decide +kernel) (by decide +kernel) ?_
              refine pe_iload (j := 6) (by decide +kernel) rfl ?_
              refine pe_iconstv (n := 4) (v := 4) (by decide +kernel) (by decide +kernel) ?_
              refine pz_rem (by decide +kernel) rfl kz_4 (by omega) (by omega) (fun z25 hz25 gz25 kz25 => ?_)
              refine pz_mul (by decide +kernel) kz_8 rfl (by omega) (by omega) (fun z26 hz26 => ?_)
              refine pz_sub (by decide +kernel) kz_24 hz26 (by omega) (by omega) (fun z27 hz27 => ?_)
              clear hz26
              refine pw_shr (by decide +kernel) (fun z28 => ?_)
              clear hz27
              refine pe_sipushv (n := 255) (v := 255) (by decide +kernel) (by decide +kernel) ?_
              refine pz_and255 (by decide +kernel) (fun z29 hz29 => ?_)
              refine mz_st148 (by decide +kernel) hc hI hz24 (by omega) (by omega) (by simp only [MT]; omega) (fun A30 eA30 hIA30 => ?_)
              refine pe_aload_n (j := 0) (by decide +kernel) rfl ?_
              refine pe_get (j := 7) (ci := 12) (n := 0) (by decide +kernel) (by decide +kernel) (md_o hc) rfl ?_
              refine pe_iconstv (n := 2) (v := 2) (by decide +kernel) (by decide +kernel) ?_
              refine pe_dup2 (by decide +kernel) ⟨rfl, rfl⟩ ?_
              refine pz_iald (by decide +kernel) (md_a148 hc) (mlen_148 hIA30) kz_2 (by omega) (by omega) (fun v31 ev31 => ?_)
              have rv31 : 0 ≤ v31.toInt ∧ v31.toInt ≤ 600 := MT_c2 (mt_148 hIA30 ev31 (by omega)) (by omega)
              have hb32 : v31.toInt = v21.toInt := by rw [← (show fr (A30 148) (2) = v31.toInt from congrArg Int32.toInt ev31.symm), upa_at eA30, fr_ne (i := (10 + v21.toInt)) (by omega) (by decide) (by omega), (show fr (A 148) (2) = v21.toInt from congrArg Int32.toInt ev21.symm)]
              refine pe_iconstv (n := 1) (v := 1) (by decide +kernel) (by decide +kernel) ?_
              refine pz_add (by decide +kernel) rfl kz_1 (by omega) (by omega) (fun z33 hz33 => ?_)
              refine mz_st148 (by decide +kernel) hc hIA30 kz_2 (by omega) (by omega) (by simp only [MT]; omega) (fun A34 eA34 hIA34 => ?_)
              refine pz_iinc (j := 6) (n := 1) (by decide +kernel) rfl rfl (by decide +kernel) (by omega) (by omega) (fun z35 hz35 => ?_)
              show pmE pg X pg_tyl pg_cl (d) 196 119 [.ref 147, .int x1, .int x2, .int x3, .int x4, .int x5, .int z35, .int x4] [] (md wc f A34) _
              refine pe_goto (off := (-99)) (t := 20) (by decide +kernel) (by decide) rfl ?_
              exact ih A34 z35 (.int x4) hIA34 (fun k n148 => (upa_fr eA34 n148).trans ((upa_fr eA30 n148).trans ((hF k n148)))) (by omega) (by rw [hz35, upa_at eA34, fr_eq (by decide) (by rw [mlen_148 hIA30]; decide)]; omega) (KE_set (i := 2) (KE_set (i := (10 + v21.toInt)) hpi1 eA30 (by omega) (by omega)) eA34 (by omega) (by omega)) (by omega)
          · skip
            refine pe_iload_n (j := 3) (by decide +kernel) rfl ?_
            refine pe_goto (off := 17) (t := 73) (by decide +kernel) (by decide) rfl ?_
            refine pe_istore (j := 7) (ls' := [.ref 147, .int x1, .int x2, .int x3, .int x4, .int x5, .int x6, .int x3]) (by decide +kernel) (Nat.le_of_ble_eq_true rfl) rfl ?_
            refine pe_aload_n (j := 0) (by decide +kernel) rfl ?_
            refine pe_get (j := 7) (ci := 12) (n := 0) (by decide +kernel) (by decide +kernel) (md_o hc) rfl ?_
            refine pe_bipushv (n := 10) (v := 10) (by decide +kernel) (by decide +kernel) ?_
            refine pe_aload_n (j := 0) (by decide +kernel) rfl ?_
            refine pe_get (j := 7) (ci := 12) (n := 0) (by decide +kernel) (by decide +kernel) (md_o hc) rfl ?_
            refine pe_iconstv (n := 2) (v := 2) (by decide +kernel) (by decide +kernel) ?_
            refine pz_iald (by decide +kernel) (md_a148 hc) (mlen_148 hI) kz_2 (by omega) (by omega) (fun v36 ev36 => ?_)
            have rv36 : 0 ≤ v36.toInt ∧ v36.toInt ≤ 600 := MT_c2 (mt_148 hI ev36 (by omega)) (by omega)
            have hb37 := hpi0
            rw [(show fr (A 148) (2) = v36.toInt from congrArg Int32.toInt ev36.symm)] at hb37
            have hb38 := hpk0
            refine pz_add (by decide +kernel) kz_10 rfl (by omega) (by omega) (fun z39 hz39 => ?_)
            refine pe_iload (j := 7) (by decide +kernel) rfl ?_
            refine pe_bipushv (n := 24) (v := 24) (by decide +kernel) (by decide +kernel) ?_
            refine pe_bipushv (n := 8) (v := 8) (by decide +kernel) (by decide +kernel) ?_
            refine pe_iload (j := 6) (by decide +kernel) rfl ?_
            refine pe_iconstv (n := 4) (v := 4) (by decide +kernel) (by decide +kernel) ?_
            refine pz_rem (by decide +kernel) rfl kz_4 (by omega) (by omega) (fun z40 hz40 gz40 kz40 => ?_)
            refine pz_mul (by decide +kernel) kz_8 rfl (by omega) (by omega) (fun z41 hz41 => ?_)
            refine pz_sub (by decide +kernel) kz_24 hz41 (by omega) (by omega) (fun z42 hz42 => ?_)
            clear hz41
            refine pw_shr (by decide +kernel) (fun z43 => ?_)
            clear hz42
            refine pe_sipushv (n := 255) (v := 255) (by decide +kernel) (by decide +kernel) ?_
            refine pz_and255 (by decide +kernel) (fun z44 hz44 => ?_)
            refine mz_st148 (by decide +kernel) hc hI hz39 (by omega) (by omega) (by simp only [MT]; omega) (fun A45 eA45 hIA45 => ?_)
            refine pe_aload_n (j := 0) (by decide +kernel) rfl ?_
            refine pe_get (j := 7) (ci := 12) (n := 0) (by decide +kernel) (by decide +kernel) (md_o hc) rfl ?_
            refine pe_iconstv (n := 2) (v := 2) (by decide +kernel) (by decide +kernel) ?_
            refine pe_dup2 (by decide +kernel) ⟨rfl, rfl⟩ ?_
            refine pz_iald (by decide +kernel) (md_a148 hc) (mlen_148 hIA45) kz_2 (by omega) (by omega) (fun v46 ev46 => ?_)
            have rv46 : 0 ≤ v46.toInt ∧ v46.toInt ≤ 600 := MT_c2 (mt_148 hIA45 ev46 (by omega)) (by omega)
            have hb47 : v46.toInt = v36.toInt := by rw [← (show fr (A45 148) (2) = v46.toInt from congrArg Int32.toInt ev46.symm), upa_at eA45, fr_ne (i := (10 + v36.toInt)) (by omega) (by decide) (by omega), (show fr (A 148) (2) = v36.toInt from congrArg Int32.toInt ev36.symm)]
            refine pe_iconstv (n := 1) (v := 1) (by decide +kernel) (by decide +kernel) ?_
            refine pz_add (by decide +kernel) rfl kz_1 (by omega) (by omega) (fun z48 hz48 => ?_)
            refine mz_st148 (by decide +kernel) hc hIA45 kz_2 (by omega) (by omega) (by simp only [MT]; omega) (fun A49 eA49 hIA49 => ?_)
            refine pz_iinc (j := 6) (n := 1) (by decide +kernel) rfl rfl (by decide +kernel) (by omega) (by omega) (fun z50 hz50 => ?_)
            show pmE pg X pg_tyl pg_cl (d) 196 119 [.ref 147, .int x1, .int x2, .int x3, .int x4, .int x5, .int z50, .int x3] [] (md wc f A49) _
            refine pe_goto (off := (-99)) (t := 20) (by decide +kernel) (by decide) rfl ?_
            exact ih A49 z50 (.int x3) hIA49 (fun k n148 => (upa_fr eA49 n148).trans ((upa_fr eA45 n148).trans ((hF k n148)))) (by omega) (by rw [hz50, upa_at eA49, fr_eq (by decide) (by rw [mlen_148 hIA45]; decide)]; omega) (KE_set (i := 2) (KE_set (i := (10 + v36.toInt)) hpi1 eA45 (by omega) (by omega)) eA49 (by omega) (by omega)) (by omega)
        · skip
          refine pe_iload_n (j := 2) (by decide +kernel) rfl ?_
          refine pe_goto (off := 28) (t := 73) (by decide +kernel) (by decide) rfl ?_
          refine pe_istore (j := 7) (ls' := [.ref 147, .int x1, .int x2, .int x3, .int x4, .int x5, .int x6, .int x2]) (by decide +kernel) (Nat.le_of_ble_eq_true rfl) rfl ?_
          refine pe_aload_n (j := 0) (by decide +kernel) rfl ?_
          refine pe_get (j := 7) (ci := 12) (n := 0) (by decide +kernel) (by decide +kernel) (md_o hc) rfl ?_
          refine pe_bipushv (n := 10) (v := 10) (by decide +kernel) (by decide +kernel) ?_
          refine pe_aload_n (j := 0) (by decide +kernel) rfl ?_
          refine pe_get (j := 7) (ci := 12) (n := 0) (by decide +kernel) (by decide +kernel) (md_o hc) rfl ?_
          refine pe_iconstv (n := 2) (v := 2) (by decide +kernel) (by decide +kernel) ?_
          refine pz_iald (by decide +kernel) (md_a148 hc) (mlen_148 hI) kz_2 (by omega) (by omega) (fun v51 ev51 => ?_)
          have rv51 : 0 ≤ v51.toInt ∧ v51.toInt ≤ 600 := MT_c2 (mt_148 hI ev51 (by omega)) (by omega)
          have hb52 := hpi0
          rw [(show fr (A 148) (2) = v51.toInt from congrArg Int32.toInt ev51.symm)] at hb52
          have hb53 := hpk0
          refine pz_add (by decide +kernel) kz_10 rfl (by omega) (by omega) (fun z54 hz54 => ?_)
          refine pe_iload (j := 7) (by decide +kernel) rfl ?_
          refine pe_bipushv (n := 24) (v := 24) (by decide +kernel) (by decide +kernel) ?_
          refine pe_bipushv (n := 8) (v := 8) (by decide +kernel) (by decide +kernel) ?_
          refine pe_iload (j := 6) (by decide +kernel) rfl ?_
          refine pe_iconstv (n := 4) (v := 4) (by decide +kernel) (by decide +kernel) ?_
          refine pz_rem (by decide +kernel) rfl kz_4 (by omega) (by omega) (fun z55 hz55 gz55 kz55 => ?_)
          refine pz_mul (by decide +kernel) kz_8 rfl (by omega) (by omega) (fun z56 hz56 => ?_)
          refine pz_sub (by decide +kernel) kz_24 hz56 (by omega) (by omega) (fun z57 hz57 => ?_)
          clear hz56
          refine pw_shr (by decide +kernel) (fun z58 => ?_)
          clear hz57
          refine pe_sipushv (n := 255) (v := 255) (by decide +kernel) (by decide +kernel) ?_
          refine pz_and255 (by decide +kernel) (fun z59 hz59 => ?_)
          refine mz_st148 (by decide +kernel) hc hI hz54 (by omega) (by omega) (by simp only [MT]; omega) (fun A60 eA60 hIA60 => ?_)
          refine pe_aload_n (j := 0) (by decide +kernel) rfl ?_
          refine pe_get (j := 7) (ci := 12) (n := 0) (by decide +kernel) (by decide +kernel) (md_o hc) rfl ?_
          refine pe_iconstv (n := 2) (v := 2) (by decide +kernel) (by decide +kernel) ?_
          refine pe_dup2 (by decide +kernel) ⟨rfl, rfl⟩ ?_
          refine pz_iald (by decide +kernel) (md_a148 hc) (mlen_148 hIA60) kz_2 (by omega) (by omega) (fun v61 ev61 => ?_)
          have rv61 : 0 ≤ v61.toInt ∧ v61.toInt ≤ 600 := MT_c2 (mt_148 hIA60 ev61 (by omega)) (by omega)
          have hb62 : v61.toInt = v51.toInt := by rw [← (show fr (A60 148) (2) = v61.toInt from congrArg Int32.toInt ev61.symm), upa_at eA60, fr_ne (i := (10 + v51.toInt)) (by omega) (by decide) (by omega), (show fr (A 148) (2) = v51.toInt from congrArg Int32.toInt ev51.symm)]
          refine pe_iconstv (n := 1) (v := 1) (by decide +kernel) (by decide +kernel) ?_
          refine pz_add (by decide +kernel) rfl kz_1 (by omega) (by omega) (fun z63 hz63 => ?_)
          refine mz_st148 (by decide +kernel) hc hIA60 kz_2 (by omega) (by omega) (by simp only [MT]; omega) (fun A64 eA64 hIA64 => ?_)
          refine pz_iinc (j := 6) (n := 1) (by decide +kernel) rfl rfl (by decide +kernel) (by omega) (by omega) (fun z65 hz65 => ?_)
          show pmE pg X pg_tyl pg_cl (d) 196 119 [.ref 147, .int x1, .int x2, .int x3, .int x4, .int x5, .int z65, .int x2] [] (md wc f A64) _
          refine pe_goto (off := (-99)) (t := 20) (by decide +kernel) (by decide) rfl ?_
          exact ih A64 z65 (.int x2) hIA64 (fun k n148 => (upa_fr eA64 n148).trans ((upa_fr eA60 n148).trans ((hF k n148)))) (by omega) (by rw [hz65, upa_at eA64, fr_eq (by decide) (by rw [mlen_148 hIA60]; decide)]; omega) (KE_set (i := 2) (KE_set (i := (10 + v51.toInt)) hpi1 eA60 (by omega) (by omega)) eA64 (by omega) (by omega)) (by omega)
      · skip
        refine pe_iload_n (j := 1) (by decide +kernel) rfl ?_
        refine pe_goto (off := 39) (t := 73) (by decide +kernel) (by decide) rfl ?_
        refine pe_istore (j := 7) (ls' := [.ref 147, .int x1, .int x2, .int x3, .int x4, .int x5, .int x6, .int x1]) (by decide +kernel) (Nat.le_of_ble_eq_true rfl) rfl ?_
        refine pe_aload_n (j := 0) (by decide +kernel) rfl ?_
        refine pe_get (j := 7) (ci := 12) (n := 0) (by decide +kernel) (by decide +kernel) (md_o hc) rfl ?_
        refine pe_bipushv (n := 10) (v := 10) (by decide +kernel) (by decide +kernel) ?_
        refine pe_aload_n (j := 0) (by decide +kernel) rfl ?_
        refine pe_get (j := 7) (ci := 12) (n := 0) (by decide +kernel) (by decide +kernel) (md_o hc) rfl ?_
        refine pe_iconstv (n := 2) (v := 2) (by decide +kernel) (by decide +kernel) ?_
        refine pz_iald (by decide +kernel) (md_a148 hc) (mlen_148 hI) kz_2 (by omega) (by omega) (fun v66 ev66 => ?_)
        have rv66 : 0 ≤ v66.toInt ∧ v66.toInt ≤ 600 := MT_c2 (mt_148 hI ev66 (by omega)) (by omega)
        have hb67 := hpi0
        rw [(show fr (A 148) (2) = v66.toInt from congrArg Int32.toInt ev66.symm)] at hb67
        have hb68 := hpk0
        refine pz_add (by decide +kernel) kz_10 rfl (by omega) (by omega) (fun z69 hz69 => ?_)
        refine pe_iload (j := 7) (by decide +kernel) rfl ?_
        refine pe_bipushv (n := 24) (v := 24) (by decide +kernel) (by decide +kernel) ?_
        refine pe_bipushv (n := 8) (v := 8) (by decide +kernel) (by decide +kernel) ?_
        refine pe_iload (j := 6) (by decide +kernel) rfl ?_
        refine pe_iconstv (n := 4) (v := 4) (by decide +kernel) (by decide +kernel) ?_
        refine pz_rem (by decide +kernel) rfl kz_4 (by omega) (by omega) (fun z70 hz70 gz70 kz70 => ?_)
        refine pz_mul (by decide +kernel) kz_8 rfl (by omega) (by omega) (fun z71 hz71 => ?_)
        refine pz_sub (by decide +kernel) kz_24 hz71 (by omega) (by omega) (fun z72 hz72 => ?_)
        clear hz71
        refine pw_shr (by decide +kernel) (fun z73 => ?_)
        clear hz72
        refine pe_sipushv (n := 255) (v := 255) (by decide +kernel) (by decide +kernel) ?_
        refine pz_and255 (by decide +kernel) (fun z74 hz74 => ?_)
        refine mz_st148 (by decide +kernel) hc hI hz69 (by omega) (by omega) (by simp only [MT]; omega) (fun A75 eA75 hIA75 => ?_)
        refine pe_aload_n (j := 0) (by decide +kernel) rfl ?_
        refine pe_get (j := 7) (ci := 12) (n := 0) (by decide +kernel) (by decide +kernel) (md_o hc) rfl ?_
        refine pe_iconstv (n := 2) (v := 2) (by decide +kernel) (by decide +kernel) ?_
        refine pe_dup2 (by decide +kernel) ⟨rfl, rfl⟩ ?_
        refine pz_iald (by decide +kernel) (md_a148 hc) (mlen_148 hIA75) kz_2 (by omega) (by omega) (fun v76 ev76 => ?_)
        have rv76 : 0 ≤ v76.toInt ∧ v76.toInt ≤ 600 := MT_c2 (mt_148 hIA75 ev76 (by omega)) (by omega)
        have hb77 : v76.toInt = v66.toInt := by rw [← (show fr (A75 148) (2) = v76.toInt from congrArg Int32.toInt ev76.symm), upa_at eA75, fr_ne (i := (10 + v66.toInt)) (by omega) (by decide) (by omega), (show fr (A 148) (2) = v66.toInt from congrArg Int32.toInt ev66.symm)]
        refine pe_iconstv (n := 1) (v := 1) (by decide +kernel) (by decide +kernel) ?_
        refine pz_add (by decide +kernel) rfl kz_1 (by omega) (by omega) (fun z78 hz78 => ?_)
        refine mz_st148 (by decide +kernel) hc hIA75 kz_2 (by omega) (by omega) (by simp only [MT]; omega) (fun A79 eA79 hIA79 => ?_)
        refine pz_iinc (j := 6) (n := 1) (by decide +kernel) rfl rfl (by decide +kernel) (by omega) (by omega) (fun z80 hz80 => ?_)
        show pmE pg X pg_tyl pg_cl (d) 196 119 [.ref 147, .int x1, .int x2, .int x3, .int x4, .int x5, .int z80, .int x1] [] (md wc f A79) _
        refine pe_goto (off := (-99)) (t := 20) (by decide +kernel) (by decide) rfl ?_
        exact ih A79 z80 (.int x1) hIA79 (fun k n148 => (upa_fr eA79 n148).trans ((upa_fr eA75 n148).trans ((hF k n148)))) (by omega) (by rw [hz80, upa_at eA79, fr_eq (by decide) (by rw [mlen_148 hIA75]; decide)]; omega) (KE_set (i := 2) (KE_set (i := (10 + v66.toInt)) hpi1 eA75 (by omega) (by omega)) eA79 (by omega) (by omega)) (by omega)
set_option maxRecDepth 100000 in
set_option maxHeartbeats 8000000 in
theorem NM_196 {X : pm_X} {d : Nat} {wc : pm_W} {f : Nat → Int32} {A : Nat → List Int32} {x1 x2 x3 x4 x5 : Int32} (hc : wc.length = 147) (hI : MI f A) : pmE pg X pg_tyl pg_cl (d) 196 0 (pm_ent (pm_max pg 196) [.ref 147, .int x1, .int x2, .int x3, .int x4, .int x5]) [] (md wc f A) (fun q => ∃ (A' : Nat → List Int32) (r : Int32), q = (some (.int r), md wc f A', 0, 0) ∧ MI f A' ∧ (∀ k : Nat, k ≠ 148 → A' k = A k) ∧ ((((-1) ≤ r.toInt ∧ r.toInt ≤ 600) ∧ ((600 < fr (A 148) 2 + 20 ∧ fr (A' 148) 2 = fr (A 148) 2 ∧ r.toInt = -1) ∨ (fr (A 148) 2 + 20 ≤ 600 ∧ fr (A' 148) 2 = fr (A 148) 2 + 20 ∧ r.toInt = fr (A 148) 2 + 20)) ∧ KE A A' ∧ True))) := by
  show pmE pg X pg_tyl pg_cl (d) 196 0 [.ref 147, .int x1, .int x2, .int x3, .int x4, .int x5, pm_dead, pm_dead] [] (md wc f A) _
  refine pe_aload_n (j := 0) (by decide +kernel) rfl ?_
  refine pe_get (j := 7) (ci := 12) (n := 0) (by decide +kernel) (by decide +kernel) (md_o hc) rfl ?_
  refine pe_iconstv (n := 2) (v := 2) (by decide +kernel) (by decide +kernel) ?_
  refine pz_iald (by decide +kernel) (md_a148 hc) (mlen_148 hI) kz_2 (by omega) (by omega) (fun v1 ev1 => ?_)
  have rv1 : 0 ≤ v1.toInt ∧ v1.toInt ≤ 600 := MT_c2 (mt_148 hI ev1 (by omega)) (by omega)
  refine pe_bipushv (n := 20) (v := 20) (by decide +kernel) (by decide +kernel) ?_
  refine pz_add (by decide +kernel) rfl kz_20 (by omega) (by omega) (fun z2 hz2 => ?_)
  refine pe_sipushv (n := 600) (v := 600) (by decide +kernel) (by decide +kernel) ?_
  refine pz_icmp_le (off := 5) (t := 17) (by decide +kernel) (by decide) rfl hz2 kz_600 (fun h3 => ?_) (fun h3 => ?_)
  · skip
    clear hz2
    have hf0 : fr (A 148) 2 ≤ 580 := by rw [(show fr (A 148) (2) = v1.toInt from congrArg Int32.toInt ev1.symm)]; omega
    refine pe_iconstv (n := 0) (v := 0) (by decide +kernel) (by decide +kernel) ?_
    refine pe_istore (j := 6) (ls' := [.ref 147, .int x1, .int x2, .int x3, .int x4, .int x5, .int 0, pm_dead]) (by decide +kernel) (Nat.le_of_ble_eq_true rfl) rfl ?_
    refine NL_196_20 hc hf0 (fun A4 y5 u6 hIy7 hFA4 gy5 hp8 hp9 => ?_) 21 A 0 (pm_dead) hI (fun k _ => rfl) (by decide +kernel) (by rw [kz_0]; omega) KE_refl (by decide +kernel)
    refine pe_aload_n (j := 0) (by decide +kernel) rfl ?_
    refine pe_get (j := 7) (ci := 12) (n := 0) (by decide +kernel) (by decide +kernel) (md_o hc) rfl ?_
    refine pe_iconstv (n := 2) (v := 2) (by decide +kernel) (by decide +kernel) ?_
    refine pz_iald (by decide +kernel) (md_a148 hc) (mlen_148 hIy7) kz_2 (by omega) (by omega) (fun v10 ev10 => ?_)
    have rv10 : 0 ≤ v10.toInt ∧ v10.toInt ≤ 600 := MT_c2 (mt_148 hIy7 ev10 (by omega)) (by omega)
    exact pe_iret (by decide +kernel) rfl rfl ⟨A4, v10, rfl, hIy7, (fun k n148 => (hFA4 k n148)), ⟨(by omega), (Or.inr ⟨by omega, by have h := hp8; omega, by have h := hp8; rw [← (show fr (A4 148) (2) = v10.toInt from congrArg Int32.toInt ev10.symm)]; omega⟩), hp9, trivial⟩⟩
  · skip
    clear hz2
    refine pe_iconstv (n := (-1)) (v := (-1)) (by decide +kernel) (by decide +kernel) ?_
    exact pe_iret (by decide +kernel) rfl rfl ⟨A, (-1), rfl, hI, (fun k n148 => rfl), ⟨(by decide +kernel), (Or.inl ⟨by rw [(show fr (A 148) (2) = v1.toInt from congrArg Int32.toInt ev1.symm)]; omega, rfl, kz_m1⟩), KE_refl, trivial⟩⟩
