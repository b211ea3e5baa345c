section
set_option maxRecDepth 100000 in
set_option maxHeartbeats 8000000 in
theorem NL_284_83 {X : pm_X} {d : Nat} {wc : pm_W} {Q : pm_R → Prop} {f : Nat → Int32} {A0 : Nat → List Int32} {x1 x2 x3 x4 x5 : Int32} (hc : wc.length = 147) (gx1 : (610 ≤ x1.toInt ∧ x1.toInt ≤ 742 ∧ (x1.toInt - 610) % 132 = 0)) (gx5 : (0 ≤ x5.toInt ∧ x5.toInt ≤ 8)) (k_195_0 : ∀ (A' : Nat → List Int32) (y6 : Int32), MI f A' → (∀ k : Nat, k ≠ 161 → A' k = A0 k) → (0 ≤ y6.toInt ∧ y6.toInt ≤ 9) → pmE pg X pg_tyl pg_cl (d + 3) 284 195 [.ref 147, .int x1, .int x2, .int x3, .int x4, .int x5, .int y6] [] (md wc f A') Q) (kr_0 : ∀ (A' : Nat → List Int32), MI f A' → (∀ k : Nat, k ≠ 161 → A' k = A0 k) → Q (some (.int 0), md wc f A', 0, 0)) : ∀ (m : Nat) (A : Nat → List Int32) (x6 : Int32), MI f A → (∀ k : Nat, k ≠ 161 → A k = A0 k) → (0 ≤ x6.toInt ∧ x6.toInt ≤ 9) → 9 - x6.toInt < (m : Int) → pmE pg X pg_tyl pg_cl (d + 3) 284 83 [.ref 147, .int x1, .int x2, .int x3, .int x4, .int x5, .int x6] [] (md wc f A) Q := by
  intro m
  induction m with
  | zero =>
    intro A x6 hI hF gx6 hm
    exfalso
    have l0 := zi_lo x6
    have u0 := zi_hi x6
    omega
  | succ m ih =>
    intro A x6 hI hF gx6 hm
    refine pe_iload (j := 6) (by decide +kernel) rfl ?_
    refine pe_aload_n (j := 0) (by decide +kernel) rfl ?_
    refine pe_get (j := 7) (ci := 12) (n := 0) (by decide +kernel) (by decide +kernel) (md_o hc) rfl ?_
    refine pe_iload_n (j := 1) (by decide +kernel) rfl ?_
    refine pz_iald (by decide +kernel) (md_a148 hc) (mlen_148 hI) rfl (by omega) (by omega) (fun v1 ev1 => ?_)
    have rv1 : 0 ≤ v1.toInt ∧ v1.toInt ≤ 9 := MT_people (mt_148 hI ev1 (by omega)) (by omega)
    rw [show A 148 = A0 148 from (hF 148 (by decide))] at ev1
    refine pz_icmp_ge (off := 104) (t := 195) (by decide +kernel) (by decide) rfl rfl rfl (fun h2 => ?_) (fun h2 => ?_)
    · skip
      exact k_195_0 A x6 hI (fun k n161 => (hF k n161)) (by omega)
    · skip
      refine pe_aload_n (j := 0) (by decide +kernel) rfl ?_
      refine pe_get (j := 50) (ci := 12) (n := 26) (by decide +kernel) (by decide +kernel) (md_o hc) rfl ?_
      refine pe_bipushv (n := 10) (v := 10) (by decide +kernel) (by decide +kernel) ?_
      refine pe_iload (j := 5) (by decide +kernel) rfl ?_
      refine pz_mul (by decide +kernel) kz_10 rfl (by omega) (by omega) (fun z3 hz3 => ?_)
      refine pe_iload (j := 6) (by decide +kernel) rfl ?_
      refine pz_add (by decide +kernel) hz3 rfl (by omega) (by omega) (fun z4 hz4 => ?_)
      clear hz3
      refine pe_iload (j := 5) (by decide +kernel) rfl ?_
      refine pe_iload (j := 4) (by decide +kernel) rfl ?_
      have lw6 := zi_lo x4
      have uw6 := zi_hi x4
      refine pz_icmp_eq (off := 10) (t := 120) (by decide +kernel) (by decide) rfl rfl rfl (fun h5 => ?_) (fun h5 => ?_)
      · skip
        refine pe_iconstv (n := 0) (v := 0) (by decide +kernel) (by decide +kernel) ?_
        refine pe_goto (off := 36) (t := 157) (by decide +kernel) (by decide) rfl ?_
        refine mz_st161 (by decide +kernel) hc hI hz4 (by omega) (by omega) (fun A7 eA7 hIA7 => ?_)
        refine pe_aload_n (j := 0) (by decide +kernel) rfl ?_
        refine pe_get (j := 47) (ci := 12) (n := 25) (by decide +kernel) (by decide +kernel) (md_o hc) rfl ?_
        refine pe_bipushv (n := 10) (v := 10) (by decide +kernel) (by decide +kernel) ?_
        refine pe_iload (j := 5) (by decide +kernel) rfl ?_
        refine pz_mul (by decide +kernel) kz_10 rfl (by omega) (by omega) (fun z8 hz8 => ?_)
        refine pe_iload (j := 6) (by decide +kernel) rfl ?_
        refine pz_add (by decide +kernel) hz8 rfl (by omega) (by omega) (fun z9 hz9 => ?_)
        clear hz8
        refine pz_iald (by decide +kernel) (md_a160 hc) (mlen_160 hIA7) hz9 (by omega) (by omega) (fun v10 ev10 => ?_)
        rw [show A7 160 = A0 160 from (upa_fr eA7 (by decide)).trans ((hF 160 (by decide)))] at ev10
        clear hz9
        refine pe_aload_n (j := 0) (by decide +kernel) rfl ?_
        refine pe_get (j := 50) (ci := 12) (n := 26) (by decide +kernel) (by decide +kernel) (md_o hc) rfl ?_
        refine pe_bipushv (n := 10) (v := 10) (by decide +kernel) (by decide +kernel) ?_
        refine pe_iload (j := 5) (by decide +kernel) rfl ?_
        refine pz_mul (by decide +kernel) kz_10 rfl (by omega) (by omega) (fun z11 hz11 => ?_)
        refine pe_iload (j := 6) (by decide +kernel) rfl ?_
        refine pz_add (by decide +kernel) hz11 rfl (by omega) (by omega) (fun z12 hz12 => ?_)
        clear hz11
        refine pz_iald (by decide +kernel) (md_a161 hc) (mlen_161 hIA7) hz12 (by omega) (by omega) (fun v13 ev13 => ?_)
        clear hz12
        have lw15 := zi_lo v10
        have uw15 := zi_hi v10
        have lw16 := zi_lo v13
        have uw16 := zi_hi v13
        refine pz_icmp_le (off := 5) (t := 189) (by decide +kernel) (by decide) rfl rfl rfl (fun h14 => ?_) (fun h14 => ?_)
        · skip
          refine pz_iinc (j := 6) (n := 1) (by decide +kernel) rfl rfl (by decide +kernel) (by omega) (by omega) (fun z17 hz17 => ?_)
          show pmE pg X pg_tyl pg_cl (d + 3) 284 192 [.ref 147, .int x1, .int x2, .int x3, .int x4, .int x5, .int z17] [] (md wc f A7) _
          refine pe_goto (off := (-109)) (t := 83) (by decide +kernel) (by decide) rfl ?_
          exact ih A7 z17 hIA7 (fun k n161 => (upa_fr eA7 n161).trans ((hF k n161))) (by omega) (by omega)
        · skip
          refine pe_iconstv (n := 0) (v := 0) (by decide +kernel) (by decide +kernel) ?_
          exact pe_iret (by decide +kernel) rfl rfl (kr_0 A7 hIA7 (fun k n161 => (upa_fr eA7 n161).trans ((hF k n161))))
      · skip
        refine pe_iload (j := 6) (by decide +kernel) rfl ?_
        refine pe_iload (j := 4) (by decide +kernel) rfl ?_
        refine pz_icmp_ne (off := 7) (t := 124) (by decide +kernel) (by decide) rfl rfl rfl (fun h18 => ?_) (fun h18 => ?_)
        · skip
          refine pe_aload_n (j := 0) (by decide +kernel) rfl ?_
          refine pe_iload_n (j := 1) (by decide +kernel) rfl ?_
          refine pe_iload (j := 5) (by decide +kernel) rfl ?_
          refine pe_iload (j := 6) (by decide +kernel) rfl ?_
          refine pz_callV (j := 199) (mj := 231) (by decide +kernel) (cll_V (args := [.int x6, .int x5, .int x1]) (n := 3) (by decide +kernel) rfl rfl (md_o hc) (by decide +kernel) (Nat.le_of_ble_eq_true rfl) (Nat.le_of_ble_eq_true rfl)) (MM_231 hc hI (by omega) (by omega) (by omega)) (fun q19a q19b q19c q19d hqq19 => ?_)
          obtain ⟨rq19, eq19, kq19⟩ := hqq19
          cases eq19
          refine ⟨rfl, rfl, ?_⟩
          show pmE pg X pg_tyl pg_cl (d + 3) 284 133 [.ref 147, .int x1, .int x2, .int x3, .int x4, .int x5, .int x6] [.int rq19, .int z4, .ref 161] (md wc f A) _
          refine pe_iload (j := 5) (by decide +kernel) rfl ?_
          refine pe_aload_n (j := 0) (by decide +kernel) rfl ?_
          refine pe_get (j := 65) (ci := 12) (n := 31) (by decide +kernel) (by decide +kernel) (md_o hc) rfl ?_
          have lw21 := zi_lo (f 31)
          have uw21 := zi_hi (f 31)
          refine pz_icmp_ne (off := 16) (t := 155) (by decide +kernel) (by decide) rfl rfl rfl (fun h20 => ?_) (fun h20 => ?_)
          · skip
            refine pe_iconstv (n := 0) (v := 0) (by decide +kernel) (by decide +kernel) ?_
            have lw23 := zi_lo rq19
            have uw23 := zi_hi rq19
            refine pz_add (by decide +kernel) rfl kz_0 (by omega) (by omega) (fun z22 hz22 => ?_)
            refine mz_st161 (by decide +kernel) hc hI hz4 (by omega) (by omega) (fun A24 eA24 hIA24 => ?_)
            refine pe_aload_n (j := 0) (by decide +kernel) rfl ?_
            refine pe_get (j := 47) (ci := 12) (n := 25) (by decide +kernel) (by decide +kernel) (md_o hc) rfl ?_
            refine pe_bipushv (n := 10) (v := 10) (by decide +kernel) (by decide +kernel) ?_
            refine pe_iload (j := 5) (by decide +kernel) rfl ?_
            refine pz_mul (by decide +kernel) kz_10 rfl (by omega) (by omega) (fun z25 hz25 => ?_)
            refine pe_iload (j := 6) (by decide +kernel) rfl ?_
            refine pz_add (by decide +kernel) hz25 rfl (by omega) (by omega) (fun z26 hz26 => ?_)
            clear hz25
            refine pz_iald (by decide +kernel) (md_a160 hc) (mlen_160 hIA24) hz26 (by omega) (by omega) (fun v27 ev27 => ?_)
            rw [show A24 160 = A0 160 from (upa_fr eA24 (by decide)).trans ((hF 160 (by decide)))] at ev27
            clear hz26
            refine pe_aload_n (j := 0) (by decide +kernel) rfl ?_
            refine pe_get (j := 50) (ci := 12) (n := 26) (by decide +kernel) (by decide +kernel) (md_o hc) rfl ?_
            refine pe_bipushv (n := 10) (v := 10) (by decide +kernel) (by decide +kernel) ?_
            refine pe_iload (j := 5) (by decide +kernel) rfl ?_
            refine pz_mul (by decide +kernel) kz_10 rfl (by omega) (by omega) (fun z28 hz28 => ?_)
            refine pe_iload (j := 6) (by decide +kernel) rfl ?_
            refine pz_add (by decide +kernel) hz28 rfl (by omega) (by omega) (fun z29 hz29 => ?_)
            clear hz28
            refine pz_iald (by decide +kernel) (md_a161 hc) (mlen_161 hIA24) hz29 (by omega) (by omega) (fun v30 ev30 => ?_)
            clear hz29
            have lw32 := zi_lo v27
            have uw32 := zi_hi v27
            have lw33 := zi_lo v30
            have uw33 := zi_hi v30
            refine pz_icmp_le (off := 5) (t := 189) (by decide +kernel) (by decide) rfl rfl rfl (fun h31 => ?_) (fun h31 => ?_)
            · skip
              refine pz_iinc (j := 6) (n := 1) (by decide +kernel) rfl rfl (by decide +kernel) (by omega) (by omega) (fun z34 hz34 => ?_)
              show pmE pg X pg_tyl pg_cl (d + 3) 284 192 [.ref 147, .int x1, .int x2, .int x3, .int x4, .int x5, .int z34] [] (md wc f A24) _
              refine pe_goto (off := (-109)) (t := 83) (by decide +kernel) (by decide) rfl ?_
              exact ih A24 z34 hIA24 (fun k n161 => (upa_fr eA24 n161).trans ((hF k n161))) (by omega) (by omega)
            · skip
              refine pe_iconstv (n := 0) (v := 0) (by decide +kernel) (by decide +kernel) ?_
              exact pe_iret (by decide +kernel) rfl rfl (kr_0 A24 hIA24 (fun k n161 => (upa_fr eA24 n161).trans ((hF k n161))))
          · skip
            refine pe_iload (j := 6) (by decide +kernel) rfl ?_
            refine pe_aload_n (j := 0) (by decide +kernel) rfl ?_
            refine pe_get (j := 69) (ci := 12) (n := 32) (by decide +kernel) (by decide +kernel) (md_o hc) rfl ?_
            have lw36 := zi_lo (f 32)
            have uw36 := zi_hi (f 32)
            refine pz_icmp_ne (off := 7) (t := 155) (by decide +kernel) (by decide) rfl rfl rfl (fun h35 => ?_) (fun h35 => ?_)
            · skip
              refine pe_iconstv (n := 0) (v := 0) (by decide +kernel) (by decide +kernel) ?_
              have lw38 := zi_lo rq19
              have uw38 := zi_hi rq19
              refine pz_add (by decide +kernel) rfl kz_0 (by omega) (by omega) (fun z37 hz37 => ?_)
              refine mz_st161 (by decide +kernel) hc hI hz4 (by omega) (by omega) (fun A39 eA39 hIA39 => ?_)
              refine pe_aload_n (j := 0) (by decide +kernel) rfl ?_
              refine pe_get (j := 47) (ci := 12) (n := 25) (by decide +kernel) (by decide +kernel) (md_o hc) rfl ?_
              refine pe_bipushv (n := 10) (v := 10) (by decide +kernel) (by decide +kernel) ?_
              refine pe_iload (j := 5) (by decide +kernel) rfl ?_
              refine pz_mul (by decide +kernel) kz_10 rfl (by omega) (by omega) (fun z40 hz40 => ?_)
              refine pe_iload (j := 6) (by decide +kernel) rfl ?_
              refine pz_add (by decide +kernel) hz40 rfl (by omega) (by omega) (fun z41 hz41 => ?_)
              clear hz40
              refine pz_iald (by decide +kernel) (md_a160 hc) (mlen_160 hIA39) hz41 (by omega) (by omega) (fun v42 ev42 => ?_)
              rw [show A39 160 = A0 160 from (upa_fr eA39 (by decide)).trans ((hF 160 (by decide)))] at ev42
              clear hz41
              refine pe_aload_n (j := 0) (by decide +kernel) rfl ?_
              refine pe_get (j := 50) (ci := 12) (n := 26) (by decide +kernel) (by decide +kernel) (md_o hc) rfl ?_
              refine pe_bipushv (n := 10) (v := 10) (by decide +kernel) (by decide +kernel) ?_
              refine pe_iload (j := 5) (by decide +kernel) rfl ?_
              refine pz_mul (by decide +kernel) kz_10 rfl (by omega) (by omega) (fun z43 hz43 => ?_)
              refine pe_iload (j := 6) (by decide +kernel) rfl ?_
              refine pz_add (by decide +kernel) hz43 rfl (by omega) (by omega) (fun z44 hz44 => ?_)
              clear hz43
              refine pz_iald (by decide +kernel) (md_a161 hc) (mlen_161 hIA39) hz44 (by omega) (by omega) (fun v45 ev45 => ?_)
              clear hz44
              have lw47 := zi_lo v42
              have uw47 := zi_hi v42
              have lw48 := zi_lo v45
              have uw48 := zi_hi v45
              refine pz_icmp_le (off := 5) (t := 189) (by decide +kernel) (by decide) rfl rfl rfl (fun h46 => ?_) (fun h46 => ?_)
              · skip
                refine pz_iinc (j := 6) (n := 1) (by decide +kernel) rfl rfl (by decide +kernel) (by omega) (by omega) (fun z49 hz49 => ?_)
                show pmE pg X pg_tyl pg_cl (d + 3) 284 192 [.ref 147, .int x1, .int x2, .int x3, .int x4, .int x5, .int z49] [] (md wc f A39) _
                refine pe_goto (off := (-109)) (t := 83) (by decide +kernel) (by decide) rfl ?_
                exact ih A39 z49 hIA39 (fun k n161 => (upa_fr eA39 n161).trans ((hF k n161))) (by omega) (by omega)
              · skip
                refine pe_iconstv (n := 0) (v := 0) (by decide +kernel) (by decide +kernel) ?_
                exact pe_iret (by decide +kernel) rfl rfl (kr_0 A39 hIA39 (fun k n161 => (upa_fr eA39 n161).trans ((hF k n161))))
            · skip
              refine pe_iconstv (n := 1) (v := 1) (by decide +kernel) (by decide +kernel) ?_
              refine pe_goto (off := 4) (t := 156) (by decide +kernel) (by decide) rfl ?_
              refine pw_add (by decide +kernel) (fun z50 => ?_)
              refine mz_st161 (by decide +kernel) hc hI hz4 (by omega) (by omega) (fun A51 eA51 hIA51 => ?_)
              refine pe_aload_n (j := 0) (by decide +kernel) rfl ?_
              refine pe_get (j := 47) (ci := 12) (n := 25) (by decide +kernel) (by decide +kernel) (md_o hc) rfl ?_
              refine pe_bipushv (n := 10) (v := 10) (by decide +kernel) (by decide +kernel) ?_
              refine pe_iload (j := 5) (by decide +kernel) rfl ?_
              refine pz_mul (by decide +kernel) kz_10 rfl (by omega) (by omega) (fun z52 hz52 => ?_)
              refine pe_iload (j := 6) (by decide +kernel) rfl ?_
              refine pz_add (by decide +kernel) hz52 rfl (by omega) (by omega) (fun z53 hz53 => ?_)
              clear hz52
              refine pz_iald (by decide +kernel) (md_a160 hc) (mlen_160 hIA51) hz53 (by omega) (by omega) (fun v54 ev54 => ?_)
              rw [show A51 160 = A0 160 from (upa_fr eA51 (by decide)).trans ((hF 160 (by decide)))] at ev54
              clear hz53
              refine pe_aload_n (j := 0) (by decide +kernel) rfl ?_
              refine pe_get (j := 50) (ci := 12) (n := 26) (by decide +kernel) (by decide +kernel) (md_o hc) rfl ?_
              refine pe_bipushv (n := 10) (v := 10) (by decide +kernel) (by decide +kernel) ?_
              refine pe_iload (j := 5) (by decide +kernel) rfl ?_
              refine pz_mul (by decide +kernel) kz_10 rfl (by omega) (by omega) (fun z55 hz55 => ?_)
              refine pe_iload (j := 6) (by decide +kernel) rfl ?_
              refine pz_add (by decide +kernel) hz55 rfl (by omega) (by omega) (fun z56 hz56 => ?_)
              clear hz55
              refine pz_iald (by decide +kernel) (md_a161 hc) (mlen_161 hIA51) hz56 (by omega) (by omega) (fun v57 ev57 => ?_)
              clear hz56
              have lw59 := zi_lo v54
              have uw59 := zi_hi v54
              have lw60 := zi_lo v57
              have uw60 := zi_hi v57
              refine pz_icmp_le (off := 5) (t := 189) (by decide +kernel) (by decide) rfl rfl rfl (fun h58 => ?_) (fun h58 => ?_)
              · skip
                refine pz_iinc (j := 6) (n := 1) (by decide +kernel) rfl rfl (by decide +kernel) (by omega) (by omega) (fun z61 hz61 => ?_)
                show pmE pg X pg_tyl pg_cl (d + 3) 284 192 [.ref 147, .int x1, .int x2, .int x3, .int x4, .int x5, .int z61] [] (md wc f A51) _
                refine pe_goto (off := (-109)) (t := 83) (by decide +kernel) (by decide) rfl ?_
                exact ih A51 z61 hIA51 (fun k n161 => (upa_fr eA51 n161).trans ((hF k n161))) (by omega) (by omega)
              · skip
                refine pe_iconstv (n := 0) (v := 0) (by decide +kernel) (by decide +kernel) ?_
                exact pe_iret (by decide +kernel) rfl rfl (kr_0 A51 hIA51 (fun k n161 => (upa_fr eA51 n161).trans ((hF k n161))))
        · skip
          refine pe_iconstv (n := 0) (v := 0) (by decide +kernel) (by decide +kernel) ?_
          refine pe_goto (off := 36) (t := 157) (by decide +kernel) (by decide) rfl ?_
          refine mz_st161 (by decide +kernel) hc hI hz4 (by omega) (by omega) (fun A62 eA62 hIA62 => ?_)
          refine pe_aload_n (j := 0) (by decide +kernel) rfl ?_
          refine pe_get (j := 47) (ci := 12) (n := 25) (by decide +kernel) (by decide +kernel) (md_o hc) rfl ?_
          refine pe_bipushv (n := 10) (v := 10) (by decide +kernel) (by decide +kernel) ?_
          refine pe_iload (j := 5) (by decide +kernel) rfl ?_
          refine pz_mul (by decide +kernel) kz_10 rfl (by omega) (by omega) (fun z63 hz63 => ?_)
          refine pe_iload (j := 6) (by decide +kernel) rfl ?_
          refine pz_add (by decide +kernel) hz63 rfl (by omega) (by omega) (fun z64 hz64 => ?_)
          clear hz63
          refine pz_iald (by decide +kernel) (md_a160 hc) (mlen_160 hIA62) hz64 (by omega) (by omega) (fun v65 ev65 => ?_)
          rw [show A62 160 = A0 160 from (upa_fr eA62 (by decide)).trans ((hF 160 (by decide)))] at ev65
          clear hz64
          refine pe_aload_n (j := 0) (by decide +kernel) rfl ?_
          refine pe_get (j := 50) (ci := 12) (n := 26) (by decide +kernel) (by decide +kernel) (md_o hc) rfl ?_
          refine pe_bipushv (n := 10) (v := 10) (by decide +kernel) (by decide +kernel) ?_
          refine pe_iload (j := 5) (by decide +kernel) rfl ?_
          refine pz_mul (by decide +kernel) kz_10 rfl (by omega) (by omega) (fun z66 hz66 => ?_)
          refine pe_iload (j := 6) (by decide +kernel) rfl ?_
          refine pz_add (by decide +kernel) hz66 rfl (by omega) (by omega) (fun z67 hz67 => ?_)
          clear hz66
          refine pz_iald (by decide +kernel) (md_a161 hc) (mlen_161 hIA62) hz67 (by omega) (by omega) (fun v68 ev68 => ?_)
          clear hz67
          have lw70 := zi_lo v65
          have uw70 := zi_hi v65
          have lw71 := zi_lo v68
          have uw71 := zi_hi v68
          refine pz_icmp_le (off := 5) (t := 189) (by decide +kernel) (by decide) rfl rfl rfl (fun h69 => ?_) (fun h69 => ?_)
          · skip
            refine pz_iinc (j := 6) (n := 1) (by decide +kernel) rfl rfl (by decide +kernel) (by omega) (by omega) (fun z72 hz72 => ?_)
            show pmE pg X pg_tyl pg_cl (d + 3) 284 192 [.ref 147, .int x1, .int x2, .int x3, .int x4, .int x5, .int z72] [] (md wc f A62) _
            refine pe_goto (off := (-109)) (t := 83) (by decide +kernel) (by decide) rfl ?_
            exact ih A62 z72 hIA62 (fun k n161 => (upa_fr eA62 n161).trans ((hF k n161))) (by omega) (by omega)
          · skip
            refine pe_iconstv (n := 0) (v := 0) (by decide +kernel) (by decide +kernel) ?_
            exact pe_iret (by decide +kernel) rfl rfl (kr_0 A62 hIA62 (fun k n161 => (upa_fr eA62 n161).trans ((hF k n161))))
set_option maxRecDepth 100000 in
set_option maxHeartbeats 8000000 in
theorem NL_284_69 {X : pm_X} {d : Nat} {wc : pm_W} {Q : pm_R → Prop} {f : Nat → Int32} {A0 : Nat → List Int32} {x1 x2 x3 x4 : Int32} (hc : wc.length = 147) (gx1 : (610 ≤ x1.toInt ∧ x1.toInt ≤ 742 ∧ (x1.toInt - 610) % 132 = 0)) (k_226_0 : ∀ (A' : Nat → List Int32) (y5 : Int32) (v6 : Value), MI f A' → (∀ k : Nat, k ≠ 161 → A' k = A0 k) → (0 ≤ y5.toInt ∧ y5.toInt ≤ 9) → pmE pg X pg_tyl pg_cl (d + 3) 284 226 [.ref 147, .int x1, .int x2, .int x3, .int x4, .int y5, v6] [] (md wc f A') Q) (kr_0 : ∀ (A' : Nat → List Int32), MI f A' → (∀ k : Nat, k ≠ 161 → A' k = A0 k) → Q (some (.int 0), md wc f A', 0, 0)) : ∀ (m : Nat) (A : Nat → List Int32) (x5 : Int32) (u6 : Value), MI f A → (∀ k : Nat, k ≠ 161 → A k = A0 k) → (0 ≤ x5.toInt ∧ x5.toInt ≤ 9) → 9 - x5.toInt < (m : Int) → pmE pg X pg_tyl pg_cl (d + 3) 284 69 [.ref 147, .int x1, .int x2, .int x3, .int x4, .int x5, u6] [] (md wc f A) Q := by
  intro m
  induction m with
  | zero =>
    intro A x5 u6 hI hF gx5 hm
    exfalso
    have l0 := zi_lo x5
    have u0 := zi_hi x5
    omega
  | succ m ih =>
    intro A x5 u6 hI hF gx5 hm
    refine pe_iload (j := 5) (by decide +kernel) rfl ?_
    refine pe_aload_n (j := 0) (by decide +kernel) rfl ?_
    refine pe_get (j := 7) (ci := 12) (n := 0) (by decide +kernel) (by decide +kernel) (md_o hc) rfl ?_
    refine pe_iload_n (j := 1) (by decide +kernel) rfl ?_
    refine pz_iald (by decide +kernel) (md_a148 hc) (mlen_148 hI) rfl (by omega) (by omega) (fun v1 ev1 => ?_)
    have rv1 : 0 ≤ v1.toInt ∧ v1.toInt ≤ 9 := MT_people (mt_148 hI ev1 (by omega)) (by omega)
    rw [show A 148 = A0 148 from (hF 148 (by decide))] at ev1
    refine pz_icmp_ge (off := 149) (t := 226) (by decide +kernel) (by decide) rfl rfl rfl (fun h2 => ?_) (fun h2 => ?_)
    · skip
      exact k_226_0 A x5 (u6) hI (fun k n161 => (hF k n161)) (by omega)
    · skip
      refine pe_iconstv (n := 0) (v := 0) (by decide +kernel) (by decide +kernel) ?_
      refine pe_istore (j := 6) (ls' := [.ref 147, .int x1, .int x2, .int x3, .int x4, .int x5, .int 0]) (by decide +kernel) (Nat.le_of_ble_eq_true rfl) rfl ?_
      refine NL_284_83 hc (by omega) (by omega) (fun A3 y4 hIy5 hFA3 gy4 => ?_) (fun A6 hIy7 hFA6 => (kr_0 A6 hIy7 (fun k n161 => ((hFA6 k n161)).trans ((hF k n161))))) 10 A 0 hI (fun k _ => rfl) (by decide +kernel) (by decide +kernel)
      refine pe_aload_n (j := 0) (by decide +kernel) rfl ?_
      refine pe_get (j := 50) (ci := 12) (n := 26) (by decide +kernel) (by decide +kernel) (md_o hc) rfl ?_
      refine pe_bipushv (n := 10) (v := 10) (by decide +kernel) (by decide +kernel) ?_
      refine pe_iload (j := 5) (by decide +kernel) rfl ?_
      refine pz_mul (by decide +kernel) kz_10 rfl (by omega) (by omega) (fun z8 hz8 => ?_)
      refine pe_bipushv (n := 9) (v := 9) (by decide +kernel) (by decide +kernel) ?_
      refine pz_add (by decide +kernel) hz8 kz_9 (by omega) (by omega) (fun z9 hz9 => ?_)
      clear hz8
      refine pe_iload_n (j := 3) (by decide +kernel) rfl ?_
      refine mz_st161 (by decide +kernel) hc hIy5 hz9 (by omega) (by omega) (fun A10 eA10 hIA10 => ?_)
      refine pe_aload_n (j := 0) (by decide +kernel) rfl ?_
      refine pe_get (j := 50) (ci := 12) (n := 26) (by decide +kernel) (by decide +kernel) (md_o hc) rfl ?_
      refine pe_bipushv (n := 90) (v := 90) (by decide +kernel) (by decide +kernel) ?_
      refine pe_iload (j := 5) (by decide +kernel) rfl ?_
      refine pz_add (by decide +kernel) kz_90 rfl (by omega) (by omega) (fun z11 hz11 => ?_)
      refine pe_iload_n (j := 3) (by decide +kernel) rfl ?_
      refine mz_st161 (by decide +kernel) hc hIA10 hz11 (by omega) (by omega) (fun A12 eA12 hIA12 => ?_)
      refine pz_iinc (j := 5) (n := 1) (by decide +kernel) rfl rfl (by decide +kernel) (by omega) (by omega) (fun z13 hz13 => ?_)
      show pmE pg X pg_tyl pg_cl (d + 3) 284 223 [.ref 147, .int x1, .int x2, .int x3, .int x4, .int z13, .int y4] [] (md wc f A12) _
      refine pe_goto (off := (-154)) (t := 69) (by decide +kernel) (by decide) rfl ?_
      exact ih A12 z13 (.int y4) hIA12 (fun k n161 => (upa_fr eA12 n161).trans ((upa_fr eA10 n161).trans (((hFA3 k n161)).trans ((hF k n161))))) (by omega) (by omega)
set_option maxRecDepth 100000 in
set_option maxHeartbeats 8000000 in
theorem NL_284_3 {X : pm_X} {d : Nat} {wc : pm_W} {Q : pm_R → Prop} {f : Nat → Int32} {A : Nat → List Int32} {x1 x2 x3 x4 : Int32} (hc : wc.length = 147) (hI : MI f A) (gx1 : (610 ≤ x1.toInt ∧ x1.toInt ≤ 742 ∧ (x1.toInt - 610) % 132 = 0)) (k_60_0 : ∀ (y5 : Int32), (0 ≤ y5.toInt ∧ y5.toInt ≤ 7) → pmE pg X pg_tyl pg_cl (d + 3) 284 60 [.ref 147, .int x1, .int x2, .int x3, .int x4, .int y5, pm_dead] [] (md wc f A) Q) (kr_0 : Q (some (.int 0), md wc f A, 0, 0)) : ∀ (m : Nat) (x5 : Int32), (0 ≤ x5.toInt ∧ x5.toInt ≤ 7) → 7 - x5.toInt < (m : Int) → pmE pg X pg_tyl pg_cl (d + 3) 284 3 [.ref 147, .int x1, .int x2, .int x3, .int x4, .int x5, pm_dead] [] (md wc f A) Q := by
  intro m
  induction m with
  | zero =>
    intro x5 gx5 hm
    exfalso
    have l0 := zi_lo x5
    have u0 := zi_hi x5
    omega
  | succ m ih =>
    intro x5 gx5 hm
    refine pe_iload (j := 5) (by decide +kernel) rfl ?_
    refine pe_aload_n (j := 0) (by decide +kernel) rfl ?_
    refine pe_get (j := 7) (ci := 12) (n := 0) (by decide +kernel) (by decide +kernel) (md_o hc) rfl ?_
    refine pe_iload_n (j := 1) (by decide +kernel) rfl ?_
    refine pe_iconstv (n := 1) (v := 1) (by decide +kernel) (by decide +kernel) ?_
    refine pz_add (by decide +kernel) rfl kz_1 (by omega) (by omega) (fun z1 hz1 => ?_)
    refine pz_iald (by decide +kernel) (md_a148 hc) (mlen_148 hI) hz1 (by omega) (by omega) (fun v2 ev2 => ?_)
    have rv2 : 0 ≤ v2.toInt ∧ v2.toInt ≤ 7 := MT_wants (mt_148 hI ev2 (by omega)) (by omega)
    clear hz1
    refine pz_icmp_ge (off := 47) (t := 60) (by decide +kernel) (by decide) rfl rfl rfl (fun h3 => ?_) (fun h3 => ?_)
    · skip
      exact k_60_0 x5 (by omega)
    · skip
      refine pe_iload_n (j := 2) (by decide +kernel) rfl ?_
      refine pe_iload (j := 5) (by decide +kernel) rfl ?_
      refine pw_shr (by decide +kernel) (fun z4 => ?_)
      refine pe_iconstv (n := 1) (v := 1) (by decide +kernel) (by decide +kernel) ?_
      refine pz_and1 (by decide +kernel) (fun z5 hz5 => ?_)
      refine pe_iconstv (n := 1) (v := 1) (by decide +kernel) (by decide +kernel) ?_
      refine pz_icmp_ne (off := 31) (t := 54) (by decide +kernel) (by decide) rfl rfl kz_1 (fun h6 => ?_) (fun h6 => ?_)
      · skip
        refine pz_iinc (j := 5) (n := 1) (by decide +kernel) rfl rfl (by decide +kernel) (by omega) (by omega) (fun z7 hz7 => ?_)
        show pmE pg X pg_tyl pg_cl (d + 3) 284 57 [.ref 147, .int x1, .int x2, .int x3, .int x4, .int z7, pm_dead] [] (md wc f A) _
        refine pe_goto (off := (-54)) (t := 3) (by decide +kernel) (by decide) rfl ?_
        exact ih z7 (by omega) (by omega)
      · skip
        refine pe_aload_n (j := 0) (by decide +kernel) rfl ?_
        refine pe_iload_n (j := 1) (by decide +kernel) rfl ?_
        refine pe_iload (j := 5) (by decide +kernel) rfl ?_
        refine pe_iconstv (n := 0) (v := 0) (by decide +kernel) (by decide +kernel) ?_
        refine pi_V (j := 172) (mj := 224) (by decide +kernel) (cll_V (args := [.int 0, .int x5, .int x1]) (n := 3) (by decide +kernel) rfl rfl (md_o hc) (by decide +kernel) (Nat.le_of_ble_eq_true rfl) (Nat.le_of_ble_eq_true rfl)) ?_
        show pmE pg X pg_tyl pg_cl (d + 2) 224 0 [.ref 147, .int x1, .int x5, .int 0] [] (md wc f A) _
        refine pe_aload_n (j := 0) (by decide +kernel) rfl ?_
        refine pe_get (j := 7) (ci := 12) (n := 0) (by decide +kernel) (by decide +kernel) (md_o hc) rfl ?_
        refine pe_iload_n (j := 1) (by decide +kernel) rfl ?_
        refine pe_bipushv (n := 102) (v := 102) (by decide +kernel) (by decide +kernel) ?_
        refine pz_add (by decide +kernel) rfl kz_102 (by omega) (by omega) (fun z8 hz8 => ?_)
        refine pe_iconstv (n := 4) (v := 4) (by decide +kernel) (by decide +kernel) ?_
        refine pe_iload_n (j := 2) (by decide +kernel) rfl ?_
        refine pz_mul (by decide +kernel) kz_4 rfl (by omega) (by omega) (fun z9 hz9 => ?_)
        refine pz_add (by decide +kernel) hz8 hz9 (by omega) (by omega) (fun z10 hz10 => ?_)
        clear hz8 hz9
        refine pe_iload_n (j := 3) (by decide +kernel) rfl ?_
        refine pz_add (by decide +kernel) hz10 kz_0 (by omega) (by omega) (fun z11 hz11 => ?_)
        clear hz10
        refine pz_iald (by decide +kernel) (md_a148 hc) (mlen_148 hI) hz11 (by omega) (by omega) (fun v12 ev12 => ?_)
        have rv12 : 0 ≤ v12.toInt ∧ v12.toInt ≤ 8 := MT_want (mt_148 hI ev12 (by omega)) (by omega)
        clear hz11
        refine pe_iret (by decide +kernel) rfl rfl ⟨rfl, rfl, ?_⟩
        show pmE pg X pg_tyl pg_cl (d + 3) 284 34 [.ref 147, .int x1, .int x2, .int x3, .int x4, .int x5, pm_dead] [.int v12] (md wc f A) _
        refine pe_iload (j := 4) (by decide +kernel) rfl ?_
        have lw14 := zi_lo x4
        have uw14 := zi_hi x4
        refine pz_icmp_eq (off := 16) (t := 52) (by decide +kernel) (by decide) rfl rfl rfl (fun h13 => ?_) (fun h13 => ?_)
        · skip
          refine pe_iconstv (n := 0) (v := 0) (by decide +kernel) (by decide +kernel) ?_
          exact pe_iret (by decide +kernel) rfl rfl kr_0
        · skip
          refine pe_aload_n (j := 0) (by decide +kernel) rfl ?_
          refine pe_iload_n (j := 1) (by decide +kernel) rfl ?_
          refine pe_iload (j := 5) (by decide +kernel) rfl ?_
          refine pe_iconstv (n := 1) (v := 1) (by decide +kernel) (by decide +kernel) ?_
          refine pi_V (j := 172) (mj := 224) (by decide +kernel) (cll_V (args := [.int 1, .int x5, .int x1]) (n := 3) (by decide +kernel) rfl rfl (md_o hc) (by decide +kernel) (Nat.le_of_ble_eq_true rfl) (Nat.le_of_ble_eq_true rfl)) ?_
          show pmE pg X pg_tyl pg_cl (d + 2) 224 0 [.ref 147, .int x1, .int x5, .int 1] [] (md wc f A) _
          refine pe_aload_n (j := 0) (by decide +kernel) rfl ?_
          refine pe_get (j := 7) (ci := 12) (n := 0) (by decide +kernel) (by decide +kernel) (md_o hc) rfl ?_
          refine pe_iload_n (j := 1) (by decide +kernel) rfl ?_
          refine pe_bipushv (n := 102) (v := 102) (by decide +kernel) (by decide +kernel) ?_
          refine pz_add (by decide +kernel) rfl kz_102 (by omega) (by omega) (fun z15 hz15 => ?_)
          refine pe_iconstv (n := 4) (v := 4) (by decide +kernel) (by decide +kernel) ?_
          refine pe_iload_n (j := 2) (by decide +kernel) rfl ?_
          refine pz_mul (by decide +kernel) kz_4 rfl (by omega) (by omega) (fun z16 hz16 => ?_)
          refine pz_add (by decide +kernel) hz15 hz16 (by omega) (by omega) (fun z17 hz17 => ?_)
          clear hz15 hz16
          refine pe_iload_n (j := 3) (by decide +kernel) rfl ?_
          refine pz_add (by decide +kernel) hz17 kz_1 (by omega) (by omega) (fun z18 hz18 => ?_)
          clear hz17
          refine pz_iald (by decide +kernel) (md_a148 hc) (mlen_148 hI) hz18 (by omega) (by omega) (fun v19 ev19 => ?_)
          have rv19 : 0 ≤ v19.toInt ∧ v19.toInt ≤ 8 := MT_want (mt_148 hI ev19 (by omega)) (by omega)
          clear hz18
          refine pe_iret (by decide +kernel) rfl rfl ⟨rfl, rfl, ?_⟩
          show pmE pg X pg_tyl pg_cl (d + 3) 284 47 [.ref 147, .int x1, .int x2, .int x3, .int x4, .int x5, pm_dead] [.int v19] (md wc f A) _
          refine pe_iload (j := 4) (by decide +kernel) rfl ?_
          refine pz_icmp_ne (off := 5) (t := 54) (by decide +kernel) (by decide) rfl rfl rfl (fun h20 => ?_) (fun h20 => ?_)
          · skip
            refine pz_iinc (j := 5) (n := 1) (by decide +kernel) rfl rfl (by decide +kernel) (by omega) (by omega) (fun z21 hz21 => ?_)
            show pmE pg X pg_tyl pg_cl (d + 3) 284 57 [.ref 147, .int x1, .int x2, .int x3, .int x4, .int z21, pm_dead] [] (md wc f A) _
            refine pe_goto (off := (-54)) (t := 3) (by decide +kernel) (by decide) rfl ?_
            exact ih z21 (by omega) (by omega)
          · skip
            refine pe_iconstv (n := 0) (v := 0) (by decide +kernel) (by decide +kernel) ?_
            exact pe_iret (by decide +kernel) rfl rfl kr_0
set_option maxRecDepth 100000 in
set_option maxHeartbeats 8000000 in
theorem NM_284 {X : pm_X} {d : Nat} {wc : pm_W} {f : Nat → Int32} {A : Nat → List Int32} {x1 x2 x3 x4 : Int32} (hc : wc.length = 147) (hI : MI f A) (gx1 : (610 ≤ x1.toInt ∧ x1.toInt ≤ 742 ∧ (x1.toInt - 610) % 132 = 0)) : pmE pg X pg_tyl pg_cl (d + 3) 284 0 (pm_ent (pm_max pg 284) [.ref 147, .int x1, .int x2, .int x3, .int x4]) [] (md wc f A) (fun q => ∃ (A' : Nat → List Int32) (r : Int32), q = (some (.int r), md wc f A', 0, 0) ∧ MI f A' ∧ (∀ k : Nat, k ≠ 160 → k ≠ 161 → k ≠ 162 → k ≠ 163 → k ≠ 164 → A' k = A k) ∧ (((0 ≤ r.toInt ∧ r.toInt ≤ 1) ∧ True))) := by
  show pmE pg X pg_tyl pg_cl (d + 3) 284 0 [.ref 147, .int x1, .int x2, .int x3, .int x4, pm_dead, pm_dead] [] (md wc f A) _
  refine pe_iconstv (n := 0) (v := 0) (by decide +kernel) (by decide +kernel) ?_
  refine pe_istore (j := 5) (ls' := [.ref 147, .int x1, .int x2, .int x3, .int x4, .int 0, pm_dead]) (by decide +kernel) (Nat.le_of_ble_eq_true rfl) rfl ?_
  refine NL_284_3 hc hI (by omega) (fun y1 gy1 => ?_) (⟨A, 0, rfl, hI, (fun k n160 n161 n162 n163 n164 => rfl), ⟨(by decide +kernel), trivial⟩⟩) 8 0 (by decide +kernel) (by decide +kernel)
  refine pe_aload_n (j := 0) (by decide +kernel) rfl ?_
  refine pe_iload_n (j := 1) (by decide +kernel) rfl ?_
  refine pe_iload_n (j := 2) (by decide +kernel) rfl ?_
  refine pz_callV (j := 331) (mj := 285) (by decide +kernel) (cll_V (args := [.int x2, .int x1]) (n := 2) (by decide +kernel) rfl rfl (md_o hc) (by decide +kernel) (Nat.le_of_ble_eq_true rfl) (Nat.le_of_ble_eq_true rfl)) (NM_285 hc hI (by omega)) (fun q2a q2b q2c q2d hqq2 => ?_)
  obtain ⟨A3, eq2, hIq2, hFq2, kq2⟩ := hqq2
  cases eq2
  refine ⟨rfl, rfl, ?_⟩
  obtain ⟨hp4, kq2⟩ := kq2
  have hq5 := AK_q hp4 (by decide)
  show pmE pg X pg_tyl pg_cl (d + 3) 284 66 [.ref 147, .int x1, .int x2, .int x3, .int x4, .int y1, pm_dead] [] (md wc f A3) _
  refine pe_iconstv (n := 0) (v := 0) (by decide +kernel) (by decide +kernel) ?_
  refine pe_istore (j := 5) (ls' := [.ref 147, .int x1, .int x2, .int x3, .int x4, .int 0, pm_dead]) (by decide +kernel) (Nat.le_of_ble_eq_true rfl) rfl ?_
  refine NL_284_69 hc (by omega) (fun A6 y7 u8 hIy9 hFA6 gy7 => ?_) (fun A10 hIy11 hFA10 => ⟨A10, 0, rfl, hIy11, (fun k n160 n161 n162 n163 n164 => ((hFA10 k n161)).trans ((hFq2 k n160 n161 n162 n163))), ⟨(by decide +kernel), trivial⟩⟩) 10 A3 0 (pm_dead) hIq2 (fun k _ => rfl) (by decide +kernel) (by decide +kernel)
  refine pe_aload_n (j := 0) (by decide +kernel) rfl ?_
  have hq12 : (∀ j : Int, (0) ≤ j → j < (10) → (-1000000) ≤ ((A6 163).getD j.toNat 0).toInt ∧ ((A6 163).getD j.toNat 0).toInt ≤ 1000000) := by
    intro j h1 h2
    rw [show A6 163 = A3 163 from (hFA6 163 (by decide))]
    first
    | (exfalso; omega)
    | exact hq5 j (by omega) (by omega)
  refine pz_callV (j := 327) (mj := 278) (by decide +kernel) (cll_V (args := []) (n := 0) (by decide +kernel) rfl rfl (md_o hc) (by decide +kernel) (Nat.le_of_ble_eq_true rfl) (Nat.le_of_ble_eq_true rfl)) (NM_278 hc hIy9 hq12) (fun q13a q13b q13c q13d hqq13 => ?_)
  obtain ⟨A14, rq13, eq13, hIq13, hFq13, kq13⟩ := hqq13
  cases eq13
  refine ⟨rfl, rfl, ?_⟩
  obtain ⟨kfq13, kq13⟩ := kq13
  obtain ⟨hq15, kq13⟩ := kq13
  show pmE pg X pg_tyl pg_cl (d + 3) 284 230 [.ref 147, .int x1, .int x2, .int x3, .int x4, .int y7, u8] [.int rq13] (md wc f A14) _
  exact pe_iret (by decide +kernel) rfl (nz_b (by omega)) ⟨A14, rq13, rfl, hIq13, (fun k n160 n161 n162 n163 n164 => ((hFq13 k n162 n163 n164)).trans (((hFA6 k n161)).trans ((hFq2 k n160 n161 n162 n163)))), ⟨(by omega), trivial⟩⟩
set_option maxRecDepth 100000 in
set_option maxHeartbeats 8000000 in
theorem NM_282 {X : pm_X} {d : Nat} {wc : pm_W} {f : Nat → Int32} {A : Nat → List Int32} {x1 x2 x3 x4 x5 : Int32} (hc : wc.length = 147) (hI : MI f A) : pmE pg X pg_tyl pg_cl (d + 7) 282 0 (pm_ent (pm_max pg 282) [.ref 147, .int x1, .int x2, .int x3, .int x4, .int x5]) [] (md wc f A) (fun q => ∃ (f' : Nat → Int32) (A' : Nat → List Int32) (r : Int32), q = (some (.int r), md wc f' A', 0, 0) ∧ MI f' A' ∧ (∀ k : Nat, k ≠ 14 → k ≠ 15 → k ≠ 16 → f' k = f k) ∧ (∀ k : Nat, k ≠ 152 → k ≠ 153 → k ≠ 160 → k ≠ 161 → k ≠ 162 → k ≠ 163 → k ≠ 164 → A' k = A k) ∧ (((0 ≤ r.toInt ∧ r.toInt ≤ 1) ∧ True))) := by
  show pmE pg X pg_tyl pg_cl (d + 7) 282 0 [.ref 147, .int x1, .int x2, .int x3, .int x4, .int x5, pm_dead] [] (md wc f A) _
  refine pe_aload_n (j := 0) (by decide +kernel) rfl ?_
  refine pe_iload_n (j := 1) (by decide +kernel) rfl ?_
  refine pe_iload_n (j := 2) (by decide +kernel) rfl ?_
  refine pe_iload_n (j := 3) (by decide +kernel) rfl ?_
  refine pz_callV (j := 232) (mj := 246) (by decide +kernel) (cll_V (args := [.int x3, .int x2, .int x1]) (n := 3) (by decide +kernel) rfl rfl (md_o hc) (by decide +kernel) (Nat.le_of_ble_eq_true rfl) (Nat.le_of_ble_eq_true rfl)) (MM_246 hc hI) (fun q1a q1b q1c q1d hqq1 => ?_)
  obtain ⟨f2, A3, rq1, eq1, hIq1, hGq1, hFq1, kq1⟩ := hqq1
  cases eq1
  refine ⟨rfl, rfl, ?_⟩
  rcases kq1 with kq1 | kq1
  · skip
    obtain ⟨erq1, kq1⟩ := kq1
    subst erq1
    show pmE pg X pg_tyl pg_cl (d + 7) 282 7 [.ref 147, .int x1, .int x2, .int x3, .int x4, .int x5, pm_dead] [.int 0] (md wc f2 A3) _
    refine pz_if_eq (off := 17) (t := 24) (by decide +kernel) (by decide) rfl kz_0 (fun h4 => ?_) (fun h4 => by omega)
    refine pe_iconstv (n := 0) (v := 0) (by decide +kernel) (by decide +kernel) ?_
    exact pe_iret (by decide +kernel) rfl rfl ⟨f2, A3, 0, rfl, hIq1, (fun k n14 n15 n16 => (hGq1 k n14 n15 n16)), (fun k n152 n153 n160 n161 n162 n163 n164 => (hFq1 k n152 n153)), ⟨(by decide +kernel), trivial⟩⟩
  · skip
    obtain ⟨erq1, kq1⟩ := kq1
    subst erq1
    show pmE pg X pg_tyl pg_cl (d + 7) 282 7 [.ref 147, .int x1, .int x2, .int x3, .int x4, .int x5, pm_dead] [.int 1] (md wc f2 A3) _
    refine pz_if_eq (off := 17) (t := 24) (by decide +kernel) (by decide) rfl kz_1 (fun h5 => by omega) (fun h5 => ?_)
    refine pe_aload_n (j := 0) (by decide +kernel) rfl ?_
    refine pe_iconstv (n := 0) (v := 0) (by decide +kernel) (by decide +kernel) ?_
    refine pe_iload_n (j := 1) (by decide +kernel) rfl ?_
    refine pi_S (j := 163) (mj := 217) (by decide +kernel) (by decide +kernel) rfl ?_
    show pmE pg X pg_tyl pg_cl (d + 6) 217 0 [.int 0, .int x1] [] (md wc f2 A3) _
    refine pe_iload_n (j := 0) (by decide +kernel) rfl ?_
    refine pz_if_ne (off := 15) (t := 16) (by decide +kernel) (by decide) rfl kz_0 (fun h6 => by omega) (fun h6 => ?_)
    refine pe_sipushv (n := 610) (v := 610) (by decide +kernel) (by decide +kernel) ?_
    refine pe_sipushv (n := 132) (v := 132) (by decide +kernel) (by decide +kernel) ?_
    refine pe_iload_n (j := 1) (by decide +kernel) rfl ?_
    refine pz_mul (by decide +kernel) kz_132 rfl (by omega) (by omega) (fun z7 hz7 => ?_)
    refine pz_add (by decide +kernel) kz_610 hz7 (by omega) (by omega) (fun z8 hz8 => ?_)
    clear hz7
    refine pe_goto (off := 12) (t := 25) (by decide +kernel) (by decide) rfl ?_
    refine pe_iret (by decide +kernel) rfl rfl ⟨rfl, rfl, ?_⟩
    show pmE pg X pg_tyl pg_cl (d + 7) 282 16 [.ref 147, .int x1, .int x2, .int x3, .int x4, .int x5, pm_dead] [.int z8, .ref 147] (md wc f2 A3) _
    refine pe_iload (j := 4) (by decide +kernel) rfl ?_
    refine pi_V (j := 334) (mj := 283) (by decide +kernel) (cll_V (args := [.int x4, .int z8]) (n := 2) (by decide +kernel) rfl rfl (md_o hc) (by decide +kernel) (Nat.le_of_ble_eq_true rfl) (Nat.le_of_ble_eq_true rfl)) ?_
    show pmE pg X pg_tyl pg_cl (d + 6) 283 0 [.ref 147, .int z8, .int x4] [] (md wc f2 A3) _
    refine pe_iload_n (j := 2) (by decide +kernel) rfl ?_
    have lw10 := zi_lo x4
    have uw10 := zi_hi x4
    refine pz_if_lt (off := 20) (t := 21) (by decide +kernel) (by decide) rfl rfl (fun h9 => ?_) (fun h9 => ?_)
    · skip
      refine pe_iconstv (n := 0) (v := 0) (by decide +kernel) (by decide +kernel) ?_
      refine pe_iret (by decide +kernel) rfl rfl ⟨rfl, rfl, ?_⟩
      show pmE pg X pg_tyl pg_cl (d + 7) 282 21 [.ref 147, .int x1, .int x2, .int x3, .int x4, .int x5, pm_dead] [.int 0] (md wc f2 A3) _
      refine pz_if_ne (off := 5) (t := 26) (by decide +kernel) (by decide) rfl kz_0 (fun h11 => by omega) (fun h11 => ?_)
      refine pe_iconstv (n := 0) (v := 0) (by decide +kernel) (by decide +kernel) ?_
      exact pe_iret (by decide +kernel) rfl rfl ⟨f2, A3, 0, rfl, hIq1, (fun k n14 n15 n16 => (hGq1 k n14 n15 n16)), (fun k n152 n153 n160 n161 n162 n163 n164 => (hFq1 k n152 n153)), ⟨(by decide +kernel), trivial⟩⟩
    · skip
      refine pe_iload_n (j := 2) (by decide +kernel) rfl ?_
      refine pe_aload_n (j := 0) (by decide +kernel) rfl ?_
      refine pe_get (j := 7) (ci := 12) (n := 0) (by decide +kernel) (by decide +kernel) (md_o hc) rfl ?_
      refine pe_iload_n (j := 1) (by decide +kernel) rfl ?_
      refine pe_iconstv (n := 1) (v := 1) (by decide +kernel) (by decide +kernel) ?_
      refine pz_add (by decide +kernel) hz8 kz_1 (by omega) (by omega) (fun z12 hz12 => ?_)
      refine pz_iald (by decide +kernel) (md_a148 hc) (mlen_148 hIq1) hz12 (by omega) (by omega) (fun v13 ev13 => ?_)
      have rv13 : 0 ≤ v13.toInt ∧ v13.toInt ≤ 7 := MT_wants (mt_148 hIq1 ev13 (by omega)) (by omega)
      rw [show A3 148 = A 148 from (hFq1 148 (by decide) (by decide))] at ev13
      clear hz12
      refine pw_shr (by decide +kernel) (fun z14 => ?_)
      have lw16 := zi_lo z14
      have uw16 := zi_hi z14
      refine pz_if_ne (off := 7) (t := 21) (by decide +kernel) (by decide) rfl rfl (fun h15 => ?_) (fun h15 => ?_)
      · skip
        refine pe_iconstv (n := 0) (v := 0) (by decide +kernel) (by decide +kernel) ?_
        refine pe_iret (by decide +kernel) rfl rfl ⟨rfl, rfl, ?_⟩
        show pmE pg X pg_tyl pg_cl (d + 7) 282 21 [.ref 147, .int x1, .int x2, .int x3, .int x4, .int x5, pm_dead] [.int 0] (md wc f2 A3) _
        refine pz_if_ne (off := 5) (t := 26) (by decide +kernel) (by decide) rfl kz_0 (fun h17 => by omega) (fun h17 => ?_)
        refine pe_iconstv (n := 0) (v := 0) (by decide +kernel) (by decide +kernel) ?_
        exact pe_iret (by decide +kernel) rfl rfl ⟨f2, A3, 0, rfl, hIq1, (fun k n14 n15 n16 => (hGq1 k n14 n15 n16)), (fun k n152 n153 n160 n161 n162 n163 n164 => (hFq1 k n152 n153)), ⟨(by decide +kernel), trivial⟩⟩
      · skip
        refine pe_iconstv (n := 1) (v := 1) (by decide +kernel) (by decide +kernel) ?_
        refine pe_goto (off := 4) (t := 22) (by decide +kernel) (by decide) rfl ?_
        refine pe_iret (by decide +kernel) rfl rfl ⟨rfl, rfl, ?_⟩
        show pmE pg X pg_tyl pg_cl (d + 7) 282 21 [.ref 147, .int x1, .int x2, .int x3, .int x4, .int x5, pm_dead] [.int 1] (md wc f2 A3) _
        refine pz_if_ne (off := 5) (t := 26) (by decide +kernel) (by decide) rfl kz_1 (fun h18 => ?_) (fun h18 => by omega)
        refine pe_iconstv (n := 0) (v := 0) (by decide +kernel) (by decide +kernel) ?_
        refine pe_iload_n (j := 1) (by decide +kernel) rfl ?_
        refine pi_S (j := 163) (mj := 217) (by decide +kernel) (by decide +kernel) rfl ?_
        show pmE pg X pg_tyl pg_cl (d + 6) 217 0 [.int 0, .int x1] [] (md wc f2 A3) _
        refine pe_iload_n (j := 0) (by decide +kernel) rfl ?_
        refine pz_if_ne (off := 15) (t := 16) (by decide +kernel) (by decide) rfl kz_0 (fun h19 => by omega) (fun h19 => ?_)
        refine pe_sipushv (n := 610) (v := 610) (by decide +kernel) (by decide +kernel) ?_
        refine pe_sipushv (n := 132) (v := 132) (by decide +kernel) (by decide +kernel) ?_
        refine pe_iload_n (j := 1) (by decide +kernel) rfl ?_
        refine pz_mul (by decide +kernel) kz_132 rfl (by omega) (by omega) (fun z20 hz20 => ?_)
        refine pz_add (by decide +kernel) kz_610 hz20 (by omega) (by omega) (fun z21 hz21 => ?_)
        clear hz20
        refine pe_goto (off := 12) (t := 25) (by decide +kernel) (by decide) rfl ?_
        refine pe_iret (by decide +kernel) rfl rfl ⟨rfl, rfl, ?_⟩
        show pmE pg X pg_tyl pg_cl (d + 7) 282 31 [.ref 147, .int x1, .int x2, .int x3, .int x4, .int x5, pm_dead] [.int z21] (md wc f2 A3) _
        refine pe_istore (j := 6) (ls' := [.ref 147, .int x1, .int x2, .int x3, .int x4, .int x5, .int z21]) (by decide +kernel) (Nat.le_of_ble_eq_true rfl) rfl ?_
        refine pe_aload_n (j := 0) (by decide +kernel) rfl ?_
        refine pe_iload (j := 6) (by decide +kernel) rfl ?_
        refine pe_iload (j := 4) (by decide +kernel) rfl ?_
        refine pe_iload (j := 5) (by decide +kernel) rfl ?_
        have lw23 := zi_lo x5
        have uw23 := zi_hi x5
        refine pz_if_eq (off := 15) (t := 55) (by decide +kernel) (by decide) rfl rfl (fun h22 => ?_) (fun h22 => ?_)
        · skip
          refine pe_iconstv (n := 0) (v := 0) (by decide +kernel) (by decide +kernel) ?_
          refine pe_iconstv (n := (-1)) (v := (-1)) (by decide +kernel) (by decide +kernel) ?_
          refine pz_callV (j := 337) (mj := 284) (by decide +kernel) (cll_V (args := [.int (-1), .int 0, .int x4, .int z21]) (n := 4) (by decide +kernel) rfl rfl (md_o hc) (by decide +kernel) (Nat.le_of_ble_eq_true rfl) (Nat.le_of_ble_eq_true rfl)) (NM_284 hc hIq1 (by omega)) (fun q24a q24b q24c q24d hqq24 => ?_)
          obtain ⟨A25, rq24, eq24, hIq24, hFq24, kq24⟩ := hqq24
          cases eq24
          refine ⟨rfl, rfl, ?_⟩
          show pmE pg X pg_tyl pg_cl (d + 7) 282 60 [.ref 147, .int x1, .int x2, .int x3, .int x4, .int x5, .int z21] [.int rq24] (md wc f2 A25) _
          exact pe_iret (by decide +kernel) rfl (nz_b (by omega)) ⟨f2, A25, rq24, rfl, hIq24, (fun k n14 n15 n16 => (hGq1 k n14 n15 n16)), (fun k n152 n153 n160 n161 n162 n163 n164 => ((hFq24 k n160 n161 n162 n163 n164)).trans ((hFq1 k n152 n153))), ⟨(by omega), trivial⟩⟩
        · skip
          refine pe_aload_n (j := 0) (by decide +kernel) rfl ?_
          refine pe_get (j := 7) (ci := 12) (n := 0) (by decide +kernel) (by decide +kernel) (md_o hc) rfl ?_
          refine pe_iload (j := 6) (by decide +kernel) rfl ?_
          refine pe_iconstv (n := 2) (v := 2) (by decide +kernel) (by decide +kernel) ?_
          refine pz_add (by decide +kernel) hz21 kz_2 (by omega) (by omega) (fun z26 hz26 => ?_)
          refine pz_iald (by decide +kernel) (md_a148 hc) (mlen_148 hIq1) hz26 (by omega) (by omega) (fun v27 ev27 => ?_)
          rw [show A3 148 = A 148 from (hFq1 148 (by decide) (by decide))] at ev27
          clear hz26
          refine pe_goto (off := 4) (t := 56) (by decide +kernel) (by decide) rfl ?_
          refine pe_iconstv (n := (-1)) (v := (-1)) (by decide +kernel) (by decide +kernel) ?_
          refine pz_callV (j := 337) (mj := 284) (by decide +kernel) (cll_V (args := [.int (-1), .int v27, .int x4, .int z21]) (n := 4) (by decide +kernel) rfl rfl (md_o hc) (by decide +kernel) (Nat.le_of_ble_eq_true rfl) (Nat.le_of_ble_eq_true rfl)) (NM_284 hc hIq1 (by omega)) (fun q28a q28b q28c q28d hqq28 => ?_)
          obtain ⟨A29, rq28, eq28, hIq28, hFq28, kq28⟩ := hqq28
          cases eq28
          refine ⟨rfl, rfl, ?_⟩
          show pmE pg X pg_tyl pg_cl (d + 7) 282 60 [.ref 147, .int x1, .int x2, .int x3, .int x4, .int x5, .int z21] [.int rq28] (md wc f2 A29) _
          exact pe_iret (by decide +kernel) rfl (nz_b (by omega)) ⟨f2, A29, rq28, rfl, hIq28, (fun k n14 n15 n16 => (hGq1 k n14 n15 n16)), (fun k n152 n153 n160 n161 n162 n163 n164 => ((hFq28 k n160 n161 n162 n163 n164)).trans ((hFq1 k n152 n153))), ⟨(by omega), trivial⟩⟩
set_option maxRecDepth 100000 in
set_option maxHeartbeats 8000000 in
theorem NL_287_6 {X : pm_X} {d : Nat} {wc : pm_W} {Q : pm_R → Prop} {f : Nat → Int32} {A0 : Nat → List Int32} {x1 x2 x3 : Int32} (hc : wc.length = 147) (gx1 : (610 ≤ x1.toInt ∧ x1.toInt ≤ 742 ∧ (x1.toInt - 610) % 132 = 0)) (k_83_0 : ∀ (A' : Nat → List Int32) (y4 : Int32) (y5 : Int32) (v6 : Value), MI f A' → (∀ k : Nat, k ≠ 160 → k ≠ 161 → k ≠ 162 → k ≠ 163 → k ≠ 164 → A' k = A0 k) → (0 ≤ y4.toInt) → (1 ≤ y5.toInt ∧ y5.toInt ≤ 128) → pmE pg X pg_tyl pg_cl (d + 4) 287 83 [.ref 147, .int x1, .int x2, .int x3, .int y4, .int y5, v6] [] (md wc f A') Q) : ∀ (m : Nat) (A : Nat → List Int32) (x4 : Int32) (x5 : Int32) (u6 : Value), MI f A → (∀ k : Nat, k ≠ 160 → k ≠ 161 → k ≠ 162 → k ≠ 163 → k ≠ 164 → A k = A0 k) → (0 ≤ x4.toInt) → (1 ≤ x5.toInt ∧ x5.toInt ≤ 128) → 128 - x5.toInt < (m : Int) → pmE pg X pg_tyl pg_cl (d + 4) 287 6 [.ref 147, .int x1, .int x2, .int x3, .int x4, .int x5, u6] [] (md wc f A) Q := by
  intro m
  induction m with
  | zero =>
    intro A x4 x5 u6 hI hF gx4 gx5 hm
    exfalso
    have l0 := zi_lo x5
    have u0 := zi_hi x5
    omega
  | succ m ih =>
    intro A x4 x5 u6 hI hF gx4 gx5 hm
    refine pe_iload (j := 5) (by decide +kernel) rfl ?_
    refine pe_iconstv (n := 1) (v := 1) (by decide +kernel) (by decide +kernel) ?_
    refine pe_aload_n (j := 0) (by decide +kernel) rfl ?_
    refine pe_get (j := 7) (ci := 12) (n := 0) (by decide +kernel) (by decide +kernel) (md_o hc) rfl ?_
    refine pe_iload_n (j := 1) (by decide +kernel) rfl ?_
    refine pe_iconstv (n := 1) (v := 1) (by decide +kernel) (by decide +kernel) ?_
    refine pz_add (by decide +kernel) rfl kz_1 (by omega) (by omega) (fun z1 hz1 => ?_)
    refine pz_iald (by decide +kernel) (md_a148 hc) (mlen_148 hI) hz1 (by omega) (by omega) (fun v2 ev2 => ?_)
    have rv2 : 0 ≤ v2.toInt ∧ v2.toInt ≤ 7 := MT_wants (mt_148 hI ev2 (by omega)) (by omega)
    rw [show A 148 = A0 148 from (hF 148 (by decide) (by decide) (by decide) (by decide) (by decide))] at ev2
    clear hz1
    refine pz_shl7 (by decide +kernel) rfl (by omega) (by omega) (fun z3 hz3 => ?_)
    refine pz_icmp_ge (off := 65) (t := 83) (by decide +kernel) (by decide) rfl rfl rfl (fun h4 => ?_) (fun h4 => ?_)
    · skip
      exact k_83_0 A x4 x5 (u6) hI (fun k n160 n161 n162 n163 n164 => (hF k n160 n161 n162 n163 n164)) (by omega) (by omega)
    · skip
      refine pe_aload_n (j := 0) (by decide +kernel) rfl ?_
      refine pe_iload_n (j := 1) (by decide +kernel) rfl ?_
      refine pe_iload (j := 5) (by decide +kernel) rfl ?_
      refine pz_callV (j := 340) (mj := 288) (by decide +kernel) (cll_V (args := [.int x5, .int x1]) (n := 2) (by decide +kernel) rfl rfl (md_o hc) (by decide +kernel) (Nat.le_of_ble_eq_true rfl) (Nat.le_of_ble_eq_true rfl)) (MM_288 hc hI (by omega)) (fun q5a q5b q5c q5d hqq5 => ?_)
      obtain ⟨rq5, eq5, kq5⟩ := hqq5
      cases eq5
      refine ⟨rfl, rfl, ?_⟩
      show pmE pg X pg_tyl pg_cl (d + 4) 287 28 [.ref 147, .int x1, .int x2, .int x3, .int x4, .int x5, u6] [.int rq5] (md wc f A) _
      refine pe_aload_n (j := 0) (by decide +kernel) rfl ?_
      refine pe_iload_n (j := 1) (by decide +kernel) rfl ?_
      refine pe_iload (j := 4) (by decide +kernel) rfl ?_
      refine pz_callV (j := 340) (mj := 288) (by decide +kernel) (cll_V (args := [.int x4, .int x1]) (n := 2) (by decide +kernel) rfl rfl (md_o hc) (by decide +kernel) (Nat.le_of_ble_eq_true rfl) (Nat.le_of_ble_eq_true rfl)) (MM_288 hc hI (by omega)) (fun q6a q6b q6c q6d hqq6 => ?_)
      obtain ⟨rq6, eq6, kq6⟩ := hqq6
      cases eq6
      refine ⟨rfl, rfl, ?_⟩
      show pmE pg X pg_tyl pg_cl (d + 4) 287 35 [.ref 147, .int x1, .int x2, .int x3, .int x4, .int x5, u6] [.int rq6, .int rq5] (md wc f A) _
      refine pw_sub (by decide +kernel) (fun z7 => ?_)
      refine pe_istore (j := 6) (ls' := [.ref 147, .int x1, .int x2, .int x3, .int x4, .int x5, .int z7]) (by decide +kernel) (Nat.le_of_ble_eq_true rfl) rfl ?_
      refine pe_iload (j := 6) (by decide +kernel) rfl ?_
      have lw9 := zi_lo z7
      have uw9 := zi_hi z7
      refine pz_if_gt (off := 21) (t := 61) (by decide +kernel) (by decide) rfl rfl (fun h8 => ?_) (fun h8 => ?_)
      · skip
        refine pe_aload_n (j := 0) (by decide +kernel) rfl ?_
        refine pe_iload_n (j := 1) (by decide +kernel) rfl ?_
        refine pe_iload (j := 5) (by decide +kernel) rfl ?_
        refine pe_iload_n (j := 2) (by decide +kernel) rfl ?_
        refine pe_iload_n (j := 3) (by decide +kernel) rfl ?_
        refine pz_callV (j := 337) (mj := 284) (by decide +kernel) (cll_V (args := [.int x3, .int x2, .int x5, .int x1]) (n := 4) (by decide +kernel) rfl rfl (md_o hc) (by decide +kernel) (Nat.le_of_ble_eq_true rfl) (Nat.le_of_ble_eq_true rfl)) (NM_284 hc hI (by omega)) (fun q10a q10b q10c q10d hqq10 => ?_)
        obtain ⟨A11, rq10, eq10, hIq10, hFq10, kq10⟩ := hqq10
        cases eq10
        refine ⟨rfl, rfl, ?_⟩
        show pmE pg X pg_tyl pg_cl (d + 4) 287 70 [.ref 147, .int x1, .int x2, .int x3, .int x4, .int x5, .int z7] [.int rq10] (md wc f A11) _
        refine pz_if_eq (off := 7) (t := 77) (by decide +kernel) (by decide) rfl rfl (fun h12 => ?_) (fun h12 => ?_)
        · skip
          refine pz_iinc (j := 5) (n := 1) (by decide +kernel) rfl rfl (by decide +kernel) (by omega) (by omega) (fun z13 hz13 => ?_)
          show pmE pg X pg_tyl pg_cl (d + 4) 287 80 [.ref 147, .int x1, .int x2, .int x3, .int x4, .int z13, .int z7] [] (md wc f A11) _
          refine pe_goto (off := (-74)) (t := 6) (by decide +kernel) (by decide) rfl ?_
          exact ih A11 x4 z13 (.int z7) hIq10 (fun k n160 n161 n162 n163 n164 => ((hFq10 k n160 n161 n162 n163 n164)).trans ((hF k n160 n161 n162 n163 n164))) (by omega) (by omega) (by omega)
        · skip
          refine pe_iload (j := 5) (by decide +kernel) rfl ?_
          refine pe_istore (j := 4) (ls' := [.ref 147, .int x1, .int x2, .int x3, .int x5, .int x5, .int z7]) (by decide +kernel) (Nat.le_of_ble_eq_true rfl) rfl ?_
          refine pz_iinc (j := 5) (n := 1) (by decide +kernel) rfl rfl (by decide +kernel) (by omega) (by omega) (fun z14 hz14 => ?_)
          show pmE pg X pg_tyl pg_cl (d + 4) 287 80 [.ref 147, .int x1, .int x2, .int x3, .int x5, .int z14, .int z7] [] (md wc f A11) _
          refine pe_goto (off := (-74)) (t := 6) (by decide +kernel) (by decide) rfl ?_
          exact ih A11 x5 z14 (.int z7) hIq10 (fun k n160 n161 n162 n163 n164 => ((hFq10 k n160 n161 n162 n163 n164)).trans ((hF k n160 n161 n162 n163 n164))) (by omega) (by omega) (by omega)
      · skip
        refine pe_iload (j := 6) (by decide +kernel) rfl ?_
        refine pz_if_ne (off := 32) (t := 77) (by decide +kernel) (by decide) rfl rfl (fun h15 => ?_) (fun h15 => ?_)
        · skip
          refine pz_iinc (j := 5) (n := 1) (by decide +kernel) rfl rfl (by decide +kernel) (by omega) (by omega) (fun z16 hz16 => ?_)
          show pmE pg X pg_tyl pg_cl (d + 4) 287 80 [.ref 147, .int x1, .int x2, .int x3, .int x4, .int z16, .int z7] [] (md wc f A) _
          refine pe_goto (off := (-74)) (t := 6) (by decide +kernel) (by decide) rfl ?_
          exact ih A x4 z16 (.int z7) hI (fun k n160 n161 n162 n163 n164 => (hF k n160 n161 n162 n163 n164)) (by omega) (by omega) (by omega)
        · skip
          refine pe_iload (j := 5) (by decide +kernel) rfl ?_
          refine pz_callS (j := 343) (mj := 289) (by decide +kernel) (by decide +kernel) rfl (MM_289 hc hI) (fun q17a q17b q17c q17d hqq17 => ?_)
          obtain ⟨rq17, eq17, kq17⟩ := hqq17
          cases eq17
          refine ⟨rfl, rfl, ?_⟩
          show pmE pg X pg_tyl pg_cl (d + 4) 287 53 [.ref 147, .int x1, .int x2, .int x3, .int x4, .int x5, .int z7] [.int rq17] (md wc f A) _
          refine pe_iload (j := 4) (by decide +kernel) rfl ?_
          refine pz_callS (j := 343) (mj := 289) (by decide +kernel) (by decide +kernel) rfl (MM_289 hc hI) (fun q18a q18b q18c q18d hqq18 => ?_)
          obtain ⟨rq18, eq18, kq18⟩ := hqq18
          cases eq18
          refine ⟨rfl, rfl, ?_⟩
          show pmE pg X pg_tyl pg_cl (d + 4) 287 58 [.ref 147, .int x1, .int x2, .int x3, .int x4, .int x5, .int z7] [.int rq18, .int rq17] (md wc f A) _
          have lw20 := zi_lo rq17
          have uw20 := zi_hi rq17
          have lw21 := zi_lo rq18
          have uw21 := zi_hi rq18
          refine pz_icmp_ge (off := 19) (t := 77) (by decide +kernel) (by decide) rfl rfl rfl (fun h19 => ?_) (fun h19 => ?_)
          · skip
            refine pz_iinc (j := 5) (n := 1) (by decide +kernel) rfl rfl (by decide +kernel) (by omega) (by omega) (fun z22 hz22 => ?_)
            show pmE pg X pg_tyl pg_cl (d + 4) 287 80 [.ref 147, .int x1, .int x2, .int x3, .int x4, .int z22, .int z7] [] (md wc f A) _
            refine pe_goto (off := (-74)) (t := 6) (by decide +kernel) (by decide) rfl ?_
            exact ih A x4 z22 (.int z7) hI (fun k n160 n161 n162 n163 n164 => (hF k n160 n161 n162 n163 n164)) (by omega) (by omega) (by omega)
          · skip
            refine pe_aload_n (j := 0) (by decide +kernel) rfl ?_
            refine pe_iload_n (j := 1) (by decide +kernel) rfl ?_
            refine pe_iload (j := 5) (by decide +kernel) rfl ?_
            refine pe_iload_n (j := 2) (by decide +kernel) rfl ?_
            refine pe_iload_n (j := 3) (by decide +kernel) rfl ?_
            refine pz_callV (j := 337) (mj := 284) (by decide +kernel) (cll_V (args := [.int x3, .int x2, .int x5, .int x1]) (n := 4) (by decide +kernel) rfl rfl (md_o hc) (by decide +kernel) (Nat.le_of_ble_eq_true rfl) (Nat.le_of_ble_eq_true rfl)) (NM_284 hc hI (by omega)) (fun q23a q23b q23c q23d hqq23 => ?_)
            obtain ⟨A24, rq23, eq23, hIq23, hFq23, kq23⟩ := hqq23
            cases eq23
            refine ⟨rfl, rfl, ?_⟩
            show pmE pg X pg_tyl pg_cl (d + 4) 287 70 [.ref 147, .int x1, .int x2, .int x3, .int x4, .int x5, .int z7] [.int rq23] (md wc f A24) _
            refine pz_if_eq (off := 7) (t := 77) (by decide +kernel) (by decide) rfl rfl (fun h25 => ?_) (fun h25 => ?_)
            · skip
              refine pz_iinc (j := 5) (n := 1) (by decide +kernel) rfl rfl (by decide +kernel) (by omega) (by omega) (fun z26 hz26 => ?_)
              show pmE pg X pg_tyl pg_cl (d + 4) 287 80 [.ref 147, .int x1, .int x2, .int x3, .int x4, .int z26, .int z7] [] (md wc f A24) _
              refine pe_goto (off := (-74)) (t := 6) (by decide +kernel) (by decide) rfl ?_
              exact ih A24 x4 z26 (.int z7) hIq23 (fun k n160 n161 n162 n163 n164 => ((hFq23 k n160 n161 n162 n163 n164)).trans ((hF k n160 n161 n162 n163 n164))) (by omega) (by omega) (by omega)
            · skip
              refine pe_iload (j := 5) (by decide +kernel) rfl ?_
              refine pe_istore (j := 4) (ls' := [.ref 147, .int x1, .int x2, .int x3, .int x5, .int x5, .int z7]) (by decide +kernel) (Nat.le_of_ble_eq_true rfl) rfl ?_
              refine pz_iinc (j := 5) (n := 1) (by decide +kernel) rfl rfl (by decide +kernel) (by omega) (by omega) (fun z27 hz27 => ?_)
              show pmE pg X pg_tyl pg_cl (d + 4) 287 80 [.ref 147, .int x1, .int x2, .int x3, .int x5, .int z27, .int z7] [] (md wc f A24) _
              refine pe_goto (off := (-74)) (t := 6) (by decide +kernel) (by decide) rfl ?_
              exact ih A24 x5 z27 (.int z7) hIq23 (fun k n160 n161 n162 n163 n164 => ((hFq23 k n160 n161 n162 n163 n164)).trans ((hF k n160 n161 n162 n163 n164))) (by omega) (by omega) (by omega)
set_option maxRecDepth 100000 in
set_option maxHeartbeats 8000000 in
theorem NM_287 {X : pm_X} {d : Nat} {wc : pm_W} {f : Nat → Int32} {A : Nat → List Int32} {x1 x2 x3 : Int32} (hc : wc.length = 147) (hI : MI f A) (gx1 : (610 ≤ x1.toInt ∧ x1.toInt ≤ 742 ∧ (x1.toInt - 610) % 132 = 0)) : pmE pg X pg_tyl pg_cl (d + 4) 287 0 (pm_ent (pm_max pg 287) [.ref 147, .int x1, .int x2, .int x3]) [] (md wc f A) (fun q => ∃ (A' : Nat → List Int32) (r : Int32), q = (some (.int r), md wc f A', 0, 0) ∧ MI f A' ∧ (∀ k : Nat, k ≠ 160 → k ≠ 161 → k ≠ 162 → k ≠ 163 → k ≠ 164 → A' k = A k) ∧ (((0 ≤ r.toInt) ∧ True))) := by
  show pmE pg X pg_tyl pg_cl (d + 4) 287 0 [.ref 147, .int x1, .int x2, .int x3, pm_dead, pm_dead, pm_dead] [] (md wc f A) _
  refine pe_iconstv (n := 0) (v := 0) (by decide +kernel) (by decide +kernel) ?_
  refine pe_istore (j := 4) (ls' := [.ref 147, .int x1, .int x2, .int x3, .int 0, pm_dead, pm_dead]) (by decide +kernel) (Nat.le_of_ble_eq_true rfl) rfl ?_
  refine pe_iconstv (n := 1) (v := 1) (by decide +kernel) (by decide +kernel) ?_
  refine pe_istore (j := 5) (ls' := [.ref 147, .int x1, .int x2, .int x3, .int 0, .int 1, pm_dead]) (by decide +kernel) (Nat.le_of_ble_eq_true rfl) rfl ?_
  refine NL_287_6 hc (by omega) (fun A1 y2 y3 u4 hIy5 hFA1 gy2 gy3 => ?_) 128 A 0 1 (pm_dead) hI (fun k _ _ _ _ _ => rfl) (by decide +kernel) (by decide +kernel) (by decide +kernel)
  refine pe_iload (j := 4) (by decide +kernel) rfl ?_
  exact pe_iret (by decide +kernel) rfl rfl ⟨A1, y2, rfl, hIy5, (fun k n160 n161 n162 n163 n164 => (hFA1 k n160 n161 n162 n163 n164)), ⟨(by omega), trivial⟩⟩
end
section
set_option maxRecDepth 100000 in
set_option maxHeartbeats 8000000 in
theorem NM_286 {X : pm_X} {d : Nat} {wc : pm_W} {f : Nat → Int32} {A : Nat → List Int32} {x1 x2 x3 x4 x5 : Int32} (hc : wc.length = 147) (hI : MI f A) : pmE pg X pg_tyl pg_cl (d + 7) 286 0 (pm_ent (pm_max pg 286) [.ref 147, .int x1, .int x2, .int x3, .int x4, .int x5]) [] (md wc f A) (fun q => ∃ (f' : Nat → Int32) (A' : Nat → List Int32) (r : Int32), q = (some (.int r), md wc f' A', 0, 0) ∧ MI f' A' ∧ (∀ k : Nat, k ≠ 14 → k ≠ 15 → k ≠ 16 → f' k = f k) ∧ (∀ k : Nat, k ≠ 152 → k ≠ 153 → k ≠ 160 → k ≠ 161 → k ≠ 162 → k ≠ 163 → k ≠ 164 → A' k = A k) ∧ ((True ∧ True))) := by
  show pmE pg X pg_tyl pg_cl (d + 7) 286 0 [.ref 147, .int x1, .int x2, .int x3, .int x4, .int x5, pm_dead, pm_dead] [] (md wc f A) _
  refine pe_aload_n (j := 0) (by decide +kernel) rfl ?_
  refine pe_iload_n (j := 1) (by decide +kernel) rfl ?_
  refine pe_iload_n (j := 2) (by decide +kernel) rfl ?_
  refine pe_iload_n (j := 3) (by decide +kernel) rfl ?_
  refine pz_callV (j := 232) (mj := 246) (by decide +kernel) (cll_V (args := [.int x3, .int x2, .int x1]) (n := 3) (by decide +kernel) rfl rfl (md_o hc) (by decide +kernel) (Nat.le_of_ble_eq_true rfl) (Nat.le_of_ble_eq_true rfl)) (MM_246 hc hI) (fun q1a q1b q1c q1d hqq1 => ?_)
  obtain ⟨f2, A3, rq1, eq1, hIq1, hGq1, hFq1, kq1⟩ := hqq1
  cases eq1
  refine ⟨rfl, rfl, ?_⟩
  rcases kq1 with kq1 | kq1
  · skip
    obtain ⟨erq1, kq1⟩ := kq1
    subst erq1
    show pmE pg X pg_tyl pg_cl (d + 7) 286 7 [.ref 147, .int x1, .int x2, .int x3, .int x4, .int x5, pm_dead, pm_dead] [.int 0] (md wc f2 A3) _
    refine pz_if_ne (off := 5) (t := 12) (by decide +kernel) (by decide) rfl kz_0 (fun h4 => by omega) (fun h4 => ?_)
    refine pe_iconstv (n := (-1)) (v := (-1)) (by decide +kernel) (by decide +kernel) ?_
    exact pe_iret (by decide +kernel) rfl rfl ⟨f2, A3, (-1), rfl, hIq1, (fun k n14 n15 n16 => (hGq1 k n14 n15 n16)), (fun k n152 n153 n160 n161 n162 n163 n164 => (hFq1 k n152 n153)), ⟨trivial, trivial⟩⟩
  · skip
    obtain ⟨erq1, kq1⟩ := kq1
    subst erq1
    show pmE pg X pg_tyl pg_cl (d + 7) 286 7 [.ref 147, .int x1, .int x2, .int x3, .int x4, .int x5, pm_dead, pm_dead] [.int 1] (md wc f2 A3) _
    refine pz_if_ne (off := 5) (t := 12) (by decide +kernel) (by decide) rfl kz_1 (fun h5 => ?_) (fun h5 => by omega)
    refine pe_iconstv (n := 0) (v := 0) (by decide +kernel) (by decide +kernel) ?_
    refine pe_iload_n (j := 1) (by decide +kernel) rfl ?_
    refine pi_S (j := 163) (mj := 217) (by decide +kernel) (by decide +kernel) rfl ?_
    show pmE pg X pg_tyl pg_cl (d + 6) 217 0 [.int 0, .int x1] [] (md wc f2 A3) _
    refine pe_iload_n (j := 0) (by decide +kernel) rfl ?_
    refine pz_if_ne (off := 15) (t := 16) (by decide +kernel) (by decide) rfl kz_0 (fun h6 => by omega) (fun h6 => ?_)
    refine pe_sipushv (n := 610) (v := 610) (by decide +kernel) (by decide +kernel) ?_
    refine pe_sipushv (n := 132) (v := 132) (by decide +kernel) (by decide +kernel) ?_
    refine pe_iload_n (j := 1) (by decide +kernel) rfl ?_
    refine pz_mul (by decide +kernel) kz_132 rfl (by omega) (by omega) (fun z7 hz7 => ?_)
    refine pz_add (by decide +kernel) kz_610 hz7 (by omega) (by omega) (fun z8 hz8 => ?_)
    clear hz7
    refine pe_goto (off := 12) (t := 25) (by decide +kernel) (by decide) rfl ?_
    refine pe_iret (by decide +kernel) rfl rfl ⟨rfl, rfl, ?_⟩
    show pmE pg X pg_tyl pg_cl (d + 7) 286 17 [.ref 147, .int x1, .int x2, .int x3, .int x4, .int x5, pm_dead, pm_dead] [.int z8] (md wc f2 A3) _
    refine pe_istore (j := 6) (ls' := [.ref 147, .int x1, .int x2, .int x3, .int x4, .int x5, .int z8, pm_dead]) (by decide +kernel) (Nat.le_of_ble_eq_true rfl) rfl ?_
    refine pe_aload_n (j := 0) (by decide +kernel) rfl ?_
    refine pe_iload (j := 6) (by decide +kernel) rfl ?_
    refine pe_iload (j := 4) (by decide +kernel) rfl ?_
    have lw10 := zi_lo x4
    have uw10 := zi_hi x4
    refine pz_if_eq (off := 15) (t := 39) (by decide +kernel) (by decide) rfl rfl (fun h9 => ?_) (fun h9 => ?_)
    · skip
      refine pe_iconstv (n := 0) (v := 0) (by decide +kernel) (by decide +kernel) ?_
      refine pe_iconstv (n := (-1)) (v := (-1)) (by decide +kernel) (by decide +kernel) ?_
      refine pz_callV (j := 346) (mj := 287) (by decide +kernel) (cll_V (args := [.int (-1), .int 0, .int z8]) (n := 3) (by decide +kernel) rfl rfl (md_o hc) (by decide +kernel) (Nat.le_of_ble_eq_true rfl) (Nat.le_of_ble_eq_true rfl)) (NM_287 hc hIq1 (by omega)) (fun q11a q11b q11c q11d hqq11 => ?_)
      obtain ⟨A12, rq11, eq11, hIq11, hFq11, kq11⟩ := hqq11
      cases eq11
      refine ⟨rfl, rfl, ?_⟩
      show pmE pg X pg_tyl pg_cl (d + 7) 286 44 [.ref 147, .int x1, .int x2, .int x3, .int x4, .int x5, .int z8, pm_dead] [.int rq11] (md wc f2 A12) _
      refine pe_istore (j := 7) (ls' := [.ref 147, .int x1, .int x2, .int x3, .int x4, .int x5, .int z8, .int rq11]) (by decide +kernel) (Nat.le_of_ble_eq_true rfl) rfl ?_
      refine pe_iload (j := 5) (by decide +kernel) rfl ?_
      have lw14 := zi_lo x5
      have uw14 := zi_hi x5
      refine pz_if_eq (off := 14) (t := 62) (by decide +kernel) (by decide) rfl rfl (fun h13 => ?_) (fun h13 => ?_)
      · skip
        refine pe_iload (j := 7) (by decide +kernel) rfl ?_
        exact pe_iret (by decide +kernel) rfl rfl ⟨f2, A12, rq11, rfl, hIq11, (fun k n14 n15 n16 => (hGq1 k n14 n15 n16)), (fun k n152 n153 n160 n161 n162 n163 n164 => ((hFq11 k n160 n161 n162 n163 n164)).trans ((hFq1 k n152 n153))), ⟨trivial, trivial⟩⟩
      · skip
        refine pe_aload_n (j := 0) (by decide +kernel) rfl ?_
        refine pe_iload (j := 6) (by decide +kernel) rfl ?_
        refine pe_iload (j := 7) (by decide +kernel) rfl ?_
        refine pz_callV (j := 340) (mj := 288) (by decide +kernel) (cll_V (args := [.int rq11, .int z8]) (n := 2) (by decide +kernel) rfl rfl (md_o hc) (by decide +kernel) (Nat.le_of_ble_eq_true rfl) (Nat.le_of_ble_eq_true rfl)) (MM_288 hc hIq11 (by omega)) (fun q15a q15b q15c q15d hqq15 => ?_)
        obtain ⟨rq15, eq15, kq15⟩ := hqq15
        cases eq15
        refine ⟨rfl, rfl, ?_⟩
        show pmE pg X pg_tyl pg_cl (d + 7) 286 59 [.ref 147, .int x1, .int x2, .int x3, .int x4, .int x5, .int z8, .int rq11] [.int rq15] (md wc f2 A12) _
        refine pe_goto (off := 5) (t := 64) (by decide +kernel) (by decide) rfl ?_
        exact pe_iret (by decide +kernel) rfl rfl ⟨f2, A12, rq15, rfl, hIq11, (fun k n14 n15 n16 => (hGq1 k n14 n15 n16)), (fun k n152 n153 n160 n161 n162 n163 n164 => ((hFq11 k n160 n161 n162 n163 n164)).trans ((hFq1 k n152 n153))), ⟨trivial, trivial⟩⟩
    · skip
      refine pe_aload_n (j := 0) (by decide +kernel) rfl ?_
      refine pe_get (j := 7) (ci := 12) (n := 0) (by decide +kernel) (by decide +kernel) (md_o hc) rfl ?_
      refine pe_iload (j := 6) (by decide +kernel) rfl ?_
      refine pe_iconstv (n := 2) (v := 2) (by decide +kernel) (by decide +kernel) ?_
      refine pz_add (by decide +kernel) hz8 kz_2 (by omega) (by omega) (fun z16 hz16 => ?_)
      refine pz_iald (by decide +kernel) (md_a148 hc) (mlen_148 hIq1) hz16 (by omega) (by omega) (fun v17 ev17 => ?_)
      rw [show A3 148 = A 148 from (hFq1 148 (by decide) (by decide))] at ev17
      clear hz16
      refine pe_goto (off := 4) (t := 40) (by decide +kernel) (by decide) rfl ?_
      refine pe_iconstv (n := (-1)) (v := (-1)) (by decide +kernel) (by decide +kernel) ?_
      refine pz_callV (j := 346) (mj := 287) (by decide +kernel) (cll_V (args := [.int (-1), .int v17, .int z8]) (n := 3) (by decide +kernel) rfl rfl (md_o hc) (by decide +kernel) (Nat.le_of_ble_eq_true rfl) (Nat.le_of_ble_eq_true rfl)) (NM_287 hc hIq1 (by omega)) (fun q18a q18b q18c q18d hqq18 => ?_)
      obtain ⟨A19, rq18, eq18, hIq18, hFq18, kq18⟩ := hqq18
      cases eq18
      refine ⟨rfl, rfl, ?_⟩
      show pmE pg X pg_tyl pg_cl (d + 7) 286 44 [.ref 147, .int x1, .int x2, .int x3, .int x4, .int x5, .int z8, pm_dead] [.int rq18] (md wc f2 A19) _
      refine pe_istore (j := 7) (ls' := [.ref 147, .int x1, .int x2, .int x3, .int x4, .int x5, .int z8, .int rq18]) (by decide +kernel) (Nat.le_of_ble_eq_true rfl) rfl ?_
      refine pe_iload (j := 5) (by decide +kernel) rfl ?_
      have lw21 := zi_lo x5
      have uw21 := zi_hi x5
      refine pz_if_eq (off := 14) (t := 62) (by decide +kernel) (by decide) rfl rfl (fun h20 => ?_) (fun h20 => ?_)
      · skip
        refine pe_iload (j := 7) (by decide +kernel) rfl ?_
        exact pe_iret (by decide +kernel) rfl rfl ⟨f2, A19, rq18, rfl, hIq18, (fun k n14 n15 n16 => (hGq1 k n14 n15 n16)), (fun k n152 n153 n160 n161 n162 n163 n164 => ((hFq18 k n160 n161 n162 n163 n164)).trans ((hFq1 k n152 n153))), ⟨trivial, trivial⟩⟩
      · skip
        refine pe_aload_n (j := 0) (by decide +kernel) rfl ?_
        refine pe_iload (j := 6) (by decide +kernel) rfl ?_
        refine pe_iload (j := 7) (by decide +kernel) rfl ?_
        refine pz_callV (j := 340) (mj := 288) (by decide +kernel) (cll_V (args := [.int rq18, .int z8]) (n := 2) (by decide +kernel) rfl rfl (md_o hc) (by decide +kernel) (Nat.le_of_ble_eq_true rfl) (Nat.le_of_ble_eq_true rfl)) (MM_288 hc hIq18 (by omega)) (fun q22a q22b q22c q22d hqq22 => ?_)
        obtain ⟨rq22, eq22, kq22⟩ := hqq22
        cases eq22
        refine ⟨rfl, rfl, ?_⟩
        show pmE pg X pg_tyl pg_cl (d + 7) 286 59 [.ref 147, .int x1, .int x2, .int x3, .int x4, .int x5, .int z8, .int rq18] [.int rq22] (md wc f2 A19) _
        refine pe_goto (off := 5) (t := 64) (by decide +kernel) (by decide) rfl ?_
        exact pe_iret (by decide +kernel) rfl rfl ⟨f2, A19, rq22, rfl, hIq18, (fun k n14 n15 n16 => (hGq1 k n14 n15 n16)), (fun k n152 n153 n160 n161 n162 n163 n164 => ((hFq18 k n160 n161 n162 n163 n164)).trans ((hFq1 k n152 n153))), ⟨trivial, trivial⟩⟩
set_option maxRecDepth 100000 in
set_option maxHeartbeats 8000000 in
theorem NM_290 {X : pm_X} {d : Nat} {wc : pm_W} {f : Nat → Int32} {A : Nat → List Int32} {x1 x2 x3 : Int32} (hc : wc.length = 147) (hI : MI f A) : pmE pg X pg_tyl pg_cl (d + 7) 290 0 (pm_ent (pm_max pg 290) [.ref 147, .int x1, .int x2, .int x3]) [] (md wc f A) (fun q => ∃ (f' : Nat → Int32) (A' : Nat → List Int32) (r : Int32), q = (some (.int r), md wc f' A', 0, 0) ∧ MI f' A' ∧ (∀ k : Nat, k ≠ 14 → k ≠ 15 → k ≠ 16 → f' k = f k) ∧ (∀ k : Nat, k ≠ 152 → k ≠ 153 → k ≠ 160 → k ≠ 161 → k ≠ 162 → k ≠ 163 → k ≠ 164 → A' k = A k) ∧ ((True ∧ True))) := by
  show pmE pg X pg_tyl pg_cl (d + 7) 290 0 [.ref 147, .int x1, .int x2, .int x3, pm_dead] [] (md wc f A) _
  refine pe_aload_n (j := 0) (by decide +kernel) rfl ?_
  refine pe_iload_n (j := 1) (by decide +kernel) rfl ?_
  refine pe_iload_n (j := 2) (by decide +kernel) rfl ?_
  refine pe_iload_n (j := 3) (by decide +kernel) rfl ?_
  refine pz_callV (j := 232) (mj := 246) (by decide +kernel) (cll_V (args := [.int x3, .int x2, .int x1]) (n := 3) (by decide +kernel) rfl rfl (md_o hc) (by decide +kernel) (Nat.le_of_ble_eq_true rfl) (Nat.le_of_ble_eq_true rfl)) (MM_246 hc hI) (fun q1a q1b q1c q1d hqq1 => ?_)
  obtain ⟨f2, A3, rq1, eq1, hIq1, hGq1, hFq1, kq1⟩ := hqq1
  cases eq1
  refine ⟨rfl, rfl, ?_⟩
  rcases kq1 with kq1 | kq1
  · skip
    obtain ⟨erq1, kq1⟩ := kq1
    subst erq1
    show pmE pg X pg_tyl pg_cl (d + 7) 290 7 [.ref 147, .int x1, .int x2, .int x3, pm_dead] [.int 0] (md wc f2 A3) _
    refine pz_if_ne (off := 5) (t := 12) (by decide +kernel) (by decide) rfl kz_0 (fun h4 => by omega) (fun h4 => ?_)
    refine pe_iconstv (n := (-1)) (v := (-1)) (by decide +kernel) (by decide +kernel) ?_
    exact pe_iret (by decide +kernel) rfl rfl ⟨f2, A3, (-1), rfl, hIq1, (fun k n14 n15 n16 => (hGq1 k n14 n15 n16)), (fun k n152 n153 n160 n161 n162 n163 n164 => (hFq1 k n152 n153)), ⟨trivial, trivial⟩⟩
  · skip
    obtain ⟨erq1, kq1⟩ := kq1
    subst erq1
    show pmE pg X pg_tyl pg_cl (d + 7) 290 7 [.ref 147, .int x1, .int x2, .int x3, pm_dead] [.int 1] (md wc f2 A3) _
    refine pz_if_ne (off := 5) (t := 12) (by decide +kernel) (by decide) rfl kz_1 (fun h5 => ?_) (fun h5 => by omega)
    refine pe_iconstv (n := 0) (v := 0) (by decide +kernel) (by decide +kernel) ?_
    refine pe_iload_n (j := 1) (by decide +kernel) rfl ?_
    refine pi_S (j := 163) (mj := 217) (by decide +kernel) (by decide +kernel) rfl ?_
    show pmE pg X pg_tyl pg_cl (d + 6) 217 0 [.int 0, .int x1] [] (md wc f2 A3) _
    refine pe_iload_n (j := 0) (by decide +kernel) rfl ?_
    refine pz_if_ne (off := 15) (t := 16) (by decide +kernel) (by decide) rfl kz_0 (fun h6 => by omega) (fun h6 => ?_)
    refine pe_sipushv (n := 610) (v := 610) (by decide +kernel) (by decide +kernel) ?_
    refine pe_sipushv (n := 132) (v := 132) (by decide +kernel) (by decide +kernel) ?_
    refine pe_iload_n (j := 1) (by decide +kernel) rfl ?_
    refine pz_mul (by decide +kernel) kz_132 rfl (by omega) (by omega) (fun z7 hz7 => ?_)
    refine pz_add (by decide +kernel) kz_610 hz7 (by omega) (by omega) (fun z8 hz8 => ?_)
    clear hz7
    refine pe_goto (off := 12) (t := 25) (by decide +kernel) (by decide) rfl ?_
    refine pe_iret (by decide +kernel) rfl rfl ⟨rfl, rfl, ?_⟩
    show pmE pg X pg_tyl pg_cl (d + 7) 290 17 [.ref 147, .int x1, .int x2, .int x3, pm_dead] [.int z8] (md wc f2 A3) _
    refine pe_istore (j := 4) (ls' := [.ref 147, .int x1, .int x2, .int x3, .int z8]) (by decide +kernel) (Nat.le_of_ble_eq_true rfl) rfl ?_
    refine pe_aload_n (j := 0) (by decide +kernel) rfl ?_
    refine pe_iload (j := 4) (by decide +kernel) rfl ?_
    refine pe_aload_n (j := 0) (by decide +kernel) rfl ?_
    refine pe_iload (j := 4) (by decide +kernel) rfl ?_
    refine pe_aload_n (j := 0) (by decide +kernel) rfl ?_
    refine pe_get (j := 7) (ci := 12) (n := 0) (by decide +kernel) (by decide +kernel) (md_o hc) rfl ?_
    refine pe_iload (j := 4) (by decide +kernel) rfl ?_
    refine pe_iconstv (n := 2) (v := 2) (by decide +kernel) (by decide +kernel) ?_
    refine pz_add (by decide +kernel) hz8 kz_2 (by omega) (by omega) (fun z9 hz9 => ?_)
    refine pz_iald (by decide +kernel) (md_a148 hc) (mlen_148 hIq1) hz9 (by omega) (by omega) (fun v10 ev10 => ?_)
    rw [show A3 148 = A 148 from (hFq1 148 (by decide) (by decide))] at ev10
    clear hz9
    refine pe_iconstv (n := (-1)) (v := (-1)) (by decide +kernel) (by decide +kernel) ?_
    refine pz_callV (j := 346) (mj := 287) (by decide +kernel) (cll_V (args := [.int (-1), .int v10, .int z8]) (n := 3) (by decide +kernel) rfl rfl (md_o hc) (by decide +kernel) (Nat.le_of_ble_eq_true rfl) (Nat.le_of_ble_eq_true rfl)) (NM_287 hc hIq1 (by omega)) (fun q11a q11b q11c q11d hqq11 => ?_)
    obtain ⟨A12, rq11, eq11, hIq11, hFq11, kq11⟩ := hqq11
    cases eq11
    refine ⟨rfl, rfl, ?_⟩
    show pmE pg X pg_tyl pg_cl (d + 7) 290 38 [.ref 147, .int x1, .int x2, .int x3, .int z8] [.int rq11, .int z8, .ref 147] (md wc f2 A12) _
    refine pz_callV (j := 340) (mj := 288) (by decide +kernel) (cll_V (args := [.int rq11, .int z8]) (n := 2) (by decide +kernel) rfl rfl (md_o hc) (by decide +kernel) (Nat.le_of_ble_eq_true rfl) (Nat.le_of_ble_eq_true rfl)) (MM_288 hc hIq11 (by omega)) (fun q13a q13b q13c q13d hqq13 => ?_)
    obtain ⟨rq13, eq13, kq13⟩ := hqq13
    cases eq13
    refine ⟨rfl, rfl, ?_⟩
    show pmE pg X pg_tyl pg_cl (d + 7) 290 41 [.ref 147, .int x1, .int x2, .int x3, .int z8] [.int rq13] (md wc f2 A12) _
    refine pe_aload_n (j := 0) (by decide +kernel) rfl ?_
    refine pe_iload (j := 4) (by decide +kernel) rfl ?_
    refine pe_aload_n (j := 0) (by decide +kernel) rfl ?_
    refine pe_iload (j := 4) (by decide +kernel) rfl ?_
    refine pe_iconstv (n := 0) (v := 0) (by decide +kernel) (by decide +kernel) ?_
    refine pe_iconstv (n := (-1)) (v := (-1)) (by decide +kernel) (by decide +kernel) ?_
    refine pz_callV (j := 346) (mj := 287) (by decide +kernel) (cll_V (args := [.int (-1), .int 0, .int z8]) (n := 3) (by decide +kernel) rfl rfl (md_o hc) (by decide +kernel) (Nat.le_of_ble_eq_true rfl) (Nat.le_of_ble_eq_true rfl)) (NM_287 hc hIq11 (by omega)) (fun q14a q14b q14c q14d hqq14 => ?_)
    obtain ⟨A15, rq14, eq14, hIq14, hFq14, kq14⟩ := hqq14
    cases eq14
    refine ⟨rfl, rfl, ?_⟩
    show pmE pg X pg_tyl pg_cl (d + 7) 290 52 [.ref 147, .int x1, .int x2, .int x3, .int z8] [.int rq14, .int z8, .ref 147, .int rq13] (md wc f2 A15) _
    refine pz_callV (j := 340) (mj := 288) (by decide +kernel) (cll_V (args := [.int rq14, .int z8]) (n := 2) (by decide +kernel) rfl rfl (md_o hc) (by decide +kernel) (Nat.le_of_ble_eq_true rfl) (Nat.le_of_ble_eq_true rfl)) (MM_288 hc hIq14 (by omega)) (fun q16a q16b q16c q16d hqq16 => ?_)
    obtain ⟨rq16, eq16, kq16⟩ := hqq16
    cases eq16
    refine ⟨rfl, rfl, ?_⟩
    show pmE pg X pg_tyl pg_cl (d + 7) 290 55 [.ref 147, .int x1, .int x2, .int x3, .int z8] [.int rq16, .int rq13] (md wc f2 A15) _
    refine pw_sub (by decide +kernel) (fun z17 => ?_)
    exact pe_iret (by decide +kernel) rfl rfl ⟨f2, A15, z17, rfl, hIq14, (fun k n14 n15 n16 => (hGq1 k n14 n15 n16)), (fun k n152 n153 n160 n161 n162 n163 n164 => ((hFq14 k n160 n161 n162 n163 n164)).trans (((hFq11 k n160 n161 n162 n163 n164)).trans ((hFq1 k n152 n153)))), ⟨trivial, trivial⟩⟩
set_option maxRecDepth 100000 in
set_option maxHeartbeats 8000000 in
theorem NM_291 {X : pm_X} {d : Nat} {wc : pm_W} {f : Nat → Int32} {A : Nat → List Int32} {x1 x2 x3 x4 : Int32} (hc : wc.length = 147) (hI : MI f A) : pmE pg X pg_tyl pg_cl (d + 8) 291 0 (pm_ent (pm_max pg 291) [.ref 147, .int x1, .int x2, .int x3, .int x4]) [] (md wc f A) (fun q => ∃ (f' : Nat → Int32) (A' : Nat → List Int32) (r : Int32), q = (some (.int r), md wc f' A', 0, 0) ∧ MI f' A' ∧ (∀ k : Nat, k ≠ 14 → k ≠ 15 → k ≠ 16 → f' k = f k) ∧ (∀ k : Nat, k ≠ 152 → k ≠ 153 → k ≠ 160 → k ≠ 161 → k ≠ 162 → k ≠ 163 → k ≠ 164 → A' k = A k) ∧ ((True ∧ True))) := by
  show pmE pg X pg_tyl pg_cl (d + 8) 291 0 [.ref 147, .int x1, .int x2, .int x3, .int x4, pm_dead] [] (md wc f A) _
  refine pe_aload_n (j := 0) (by decide +kernel) rfl ?_
  refine pe_iload_n (j := 1) (by decide +kernel) rfl ?_
  refine pe_iload_n (j := 2) (by decide +kernel) rfl ?_
  refine pe_iload_n (j := 3) (by decide +kernel) rfl ?_
  refine pe_iload (j := 4) (by decide +kernel) rfl ?_
  refine pe_iload (j := 4) (by decide +kernel) rfl ?_
  refine pz_callV (j := 235) (mj := 245) (by decide +kernel) (cll_V (args := [.int x4, .int x4, .int x3, .int x2, .int x1]) (n := 5) (by decide +kernel) rfl rfl (md_o hc) (by decide +kernel) (Nat.le_of_ble_eq_true rfl) (Nat.le_of_ble_eq_true rfl)) (MM_245 hc hI) (fun q1a q1b q1c q1d hqq1 => ?_)
  obtain ⟨f2, A3, rq1, eq1, hIq1, hGq1, hFq1, kq1⟩ := hqq1
  cases eq1
  refine ⟨rfl, rfl, ?_⟩
  rcases kq1 with kq1 | kq1
  · skip
    obtain ⟨erq1, kq1⟩ := kq1
    subst erq1
    show pmE pg X pg_tyl pg_cl (d + 8) 291 11 [.ref 147, .int x1, .int x2, .int x3, .int x4, pm_dead] [.int 0] (md wc f2 A3) _
    refine pz_if_ne (off := 5) (t := 16) (by decide +kernel) (by decide) rfl kz_0 (fun h4 => by omega) (fun h4 => ?_)
    refine pe_iconstv (n := (-1)) (v := (-1)) (by decide +kernel) (by decide +kernel) ?_
    exact pe_iret (by decide +kernel) rfl rfl ⟨f2, A3, (-1), rfl, hIq1, (fun k n14 n15 n16 => (hGq1 k n14 n15 n16)), (fun k n152 n153 n160 n161 n162 n163 n164 => (hFq1 k n152 n153)), ⟨trivial, trivial⟩⟩
  · skip
    obtain ⟨erq1, kq1⟩ := kq1
    subst erq1
    show pmE pg X pg_tyl pg_cl (d + 8) 291 11 [.ref 147, .int x1, .int x2, .int x3, .int x4, pm_dead] [.int 1] (md wc f2 A3) _
    refine pz_if_ne (off := 5) (t := 16) (by decide +kernel) (by decide) rfl kz_1 (fun h5 => ?_) (fun h5 => by omega)
    refine pe_iconstv (n := 0) (v := 0) (by decide +kernel) (by decide +kernel) ?_
    refine pe_iload_n (j := 1) (by decide +kernel) rfl ?_
    refine pi_S (j := 163) (mj := 217) (by decide +kernel) (by decide +kernel) rfl ?_
    show pmE pg X pg_tyl pg_cl (d + 7) 217 0 [.int 0, .int x1] [] (md wc f2 A3) _
    refine pe_iload_n (j := 0) (by decide +kernel) rfl ?_
    refine pz_if_ne (off := 15) (t := 16) (by decide +kernel) (by decide) rfl kz_0 (fun h6 => by omega) (fun h6 => ?_)
    refine pe_sipushv (n := 610) (v := 610) (by decide +kernel) (by decide +kernel) ?_
    refine pe_sipushv (n := 132) (v := 132) (by decide +kernel) (by decide +kernel) ?_
    refine pe_iload_n (j := 1) (by decide +kernel) rfl ?_
    refine pz_mul (by decide +kernel) kz_132 rfl (by omega) (by omega) (fun z7 hz7 => ?_)
    refine pz_add (by decide +kernel) kz_610 hz7 (by omega) (by omega) (fun z8 hz8 => ?_)
    clear hz7
    refine pe_goto (off := 12) (t := 25) (by decide +kernel) (by decide) rfl ?_
    refine pe_iret (by decide +kernel) rfl rfl ⟨rfl, rfl, ?_⟩
    show pmE pg X pg_tyl pg_cl (d + 8) 291 21 [.ref 147, .int x1, .int x2, .int x3, .int x4, pm_dead] [.int z8] (md wc f2 A3) _
    refine pe_istore (j := 5) (ls' := [.ref 147, .int x1, .int x2, .int x3, .int x4, .int z8]) (by decide +kernel) (Nat.le_of_ble_eq_true rfl) rfl ?_
    refine pe_aload_n (j := 0) (by decide +kernel) rfl ?_
    refine pe_iload (j := 5) (by decide +kernel) rfl ?_
    refine pe_aload_n (j := 0) (by decide +kernel) rfl ?_
    refine pe_iload (j := 5) (by decide +kernel) rfl ?_
    refine pe_iconstv (n := 0) (v := 0) (by decide +kernel) (by decide +kernel) ?_
    refine pe_iconstv (n := (-1)) (v := (-1)) (by decide +kernel) (by decide +kernel) ?_
    refine pz_callV (j := 346) (mj := 287) (by decide +kernel) (cll_V (args := [.int (-1), .int 0, .int z8]) (n := 3) (by decide +kernel) rfl rfl (md_o hc) (by decide +kernel) (Nat.le_of_ble_eq_true rfl) (Nat.le_of_ble_eq_true rfl)) (NM_287 hc hIq1 (by omega)) (fun q9a q9b q9c q9d hqq9 => ?_)
    obtain ⟨A10, rq9, eq9, hIq9, hFq9, kq9⟩ := hqq9
    cases eq9
    refine ⟨rfl, rfl, ?_⟩
    show pmE pg X pg_tyl pg_cl (d + 8) 291 34 [.ref 147, .int x1, .int x2, .int x3, .int x4, .int z8] [.int rq9, .int z8, .ref 147] (md wc f2 A10) _
    refine pz_callV (j := 340) (mj := 288) (by decide +kernel) (cll_V (args := [.int rq9, .int z8]) (n := 2) (by decide +kernel) rfl rfl (md_o hc) (by decide +kernel) (Nat.le_of_ble_eq_true rfl) (Nat.le_of_ble_eq_true rfl)) (MM_288 hc hIq9 (by omega)) (fun q11a q11b q11c q11d hqq11 => ?_)
    obtain ⟨rq11, eq11, kq11⟩ := hqq11
    cases eq11
    refine ⟨rfl, rfl, ?_⟩
    show pmE pg X pg_tyl pg_cl (d + 8) 291 37 [.ref 147, .int x1, .int x2, .int x3, .int x4, .int z8] [.int rq11] (md wc f2 A10) _
    refine pe_aload_n (j := 0) (by decide +kernel) rfl ?_
    refine pe_iload (j := 5) (by decide +kernel) rfl ?_
    refine pe_aload_n (j := 0) (by decide +kernel) rfl ?_
    refine pe_iload (j := 5) (by decide +kernel) rfl ?_
    refine pe_iconstv (n := 0) (v := 0) (by decide +kernel) (by decide +kernel) ?_
    refine pe_iload (j := 4) (by decide +kernel) rfl ?_
    refine pz_callV (j := 346) (mj := 287) (by decide +kernel) (cll_V (args := [.int x4, .int 0, .int z8]) (n := 3) (by decide +kernel) rfl rfl (md_o hc) (by decide +kernel) (Nat.le_of_ble_eq_true rfl) (Nat.le_of_ble_eq_true rfl)) (NM_287 hc hIq9 (by omega)) (fun q12a q12b q12c q12d hqq12 => ?_)
    obtain ⟨A13, rq12, eq12, hIq12, hFq12, kq12⟩ := hqq12
    cases eq12
    refine ⟨rfl, rfl, ?_⟩
    show pmE pg X pg_tyl pg_cl (d + 8) 291 49 [.ref 147, .int x1, .int x2, .int x3, .int x4, .int z8] [.int rq12, .int z8, .ref 147, .int rq11] (md wc f2 A13) _
    refine pz_callV (j := 340) (mj := 288) (by decide +kernel) (cll_V (args := [.int rq12, .int z8]) (n := 2) (by decide +kernel) rfl rfl (md_o hc) (by decide +kernel) (Nat.le_of_ble_eq_true rfl) (Nat.le_of_ble_eq_true rfl)) (MM_288 hc hIq12 (by omega)) (fun q14a q14b q14c q14d hqq14 => ?_)
    obtain ⟨rq14, eq14, kq14⟩ := hqq14
    cases eq14
    refine ⟨rfl, rfl, ?_⟩
    show pmE pg X pg_tyl pg_cl (d + 8) 291 52 [.ref 147, .int x1, .int x2, .int x3, .int x4, .int z8] [.int rq14, .int rq11] (md wc f2 A13) _
    refine pw_sub (by decide +kernel) (fun z15 => ?_)
    exact pe_iret (by decide +kernel) rfl rfl ⟨f2, A13, z15, rfl, hIq12, (fun k n14 n15 n16 => (hGq1 k n14 n15 n16)), (fun k n152 n153 n160 n161 n162 n163 n164 => ((hFq12 k n160 n161 n162 n163 n164)).trans (((hFq9 k n160 n161 n162 n163 n164)).trans ((hFq1 k n152 n153)))), ⟨trivial, trivial⟩⟩
set_option maxRecDepth 100000 in
set_option maxHeartbeats 8000000 in
theorem NL_292_70 {X : pm_X} {d : Nat} {wc : pm_W} {Q : pm_R → Prop} {f : Nat → Int32} {A0 : Nat → List Int32} {x1 x2 x3 x4 x6 : Int32} (hc : wc.length = 147) (gx1 : (0 ≤ x1.toInt ∧ x1.toInt ≤ 1)) (gx2 : (610 ≤ x2.toInt ∧ x2.toInt ≤ 742 ∧ (x2.toInt - 610) % 132 = 0)) (gx3 : (0 ≤ x3.toInt ∧ x3.toInt ≤ 127)) (gx4 : (0 ≤ x4.toInt ∧ x4.toInt ≤ 99)) (gx6 : (0 ≤ x6.toInt ∧ x6.toInt ≤ 8)) (k_154_0 : ∀ (A' : Nat → List Int32) (y5 : Int32) (y7 : Int32), MI f A' → (∀ k : Nat, k ≠ 161 → A' k = A0 k) → (0 ≤ y5.toInt ∧ y5.toInt ≤ 1) → (0 ≤ y7.toInt ∧ y7.toInt ≤ 9) → pmE pg X pg_tyl pg_cl (d + 3) 292 154 [.ref 147, .int x1, .int x2, .int x3, .int x4, .int y5, .int x6, .int y7] [] (md wc f A') Q) : ∀ (m : Nat) (A : Nat → List Int32) (x5 : Int32) (x7 : Int32), MI f A → (∀ k : Nat, k ≠ 161 → A k = A0 k) → (0 ≤ x5.toInt ∧ x5.toInt ≤ 1) → (0 ≤ x7.toInt ∧ x7.toInt ≤ 9) → 9 - x7.toInt < (m : Int) → pmE pg X pg_tyl pg_cl (d + 3) 292 70 [.ref 147, .int x1, .int x2, .int x3, .int x4, .int x5, .int x6, .int x7] [] (md wc f A) Q := by
  intro m
  induction m with
  | zero =>
    intro A x5 x7 hI hF gx5 gx7 hm
    exfalso
    have l0 := zi_lo x7
    have u0 := zi_hi x7
    omega
  | succ m ih =>
    intro A x5 x7 hI hF gx5 gx7 hm
    refine pe_iload (j := 7) (by decide +kernel) rfl ?_
    refine pe_aload_n (j := 0) (by decide +kernel) rfl ?_
    refine pe_get (j := 7) (ci := 12) (n := 0) (by decide +kernel) (by decide +kernel) (md_o hc) rfl ?_
    refine pe_iload_n (j := 2) (by decide +kernel) rfl ?_
    refine pz_iald (by decide +kernel) (md_a148 hc) (mlen_148 hI) rfl (by omega) (by omega) (fun v1 ev1 => ?_)
    have rv1 : 0 ≤ v1.toInt ∧ v1.toInt ≤ 9 := MT_people (mt_148 hI ev1 (by omega)) (by omega)
    rw [show A 148 = A0 148 from (hF 148 (by decide))] at ev1
    refine pz_icmp_ge (off := 76) (t := 154) (by decide +kernel) (by decide) rfl rfl rfl (fun h2 => ?_) (fun h2 => ?_)
    · skip
      exact k_154_0 A x5 x7 hI (fun k n161 => (hF k n161)) (by omega) (by omega)
    · skip
      refine pe_aload_n (j := 0) (by decide +kernel) rfl ?_
      refine pe_get (j := 50) (ci := 12) (n := 26) (by decide +kernel) (by decide +kernel) (md_o hc) rfl ?_
      refine pe_bipushv (n := 10) (v := 10) (by decide +kernel) (by decide +kernel) ?_
      refine pe_iload (j := 6) (by decide +kernel) rfl ?_
      refine pz_mul (by decide +kernel) kz_10 rfl (by omega) (by omega) (fun z3 hz3 => ?_)
      refine pe_iload (j := 7) (by decide +kernel) rfl ?_
      refine pz_add (by decide +kernel) hz3 rfl (by omega) (by omega) (fun z4 hz4 => ?_)
      clear hz3
      refine pe_iload (j := 6) (by decide +kernel) rfl ?_
      refine pe_iload (j := 7) (by decide +kernel) rfl ?_
      refine pz_icmp_ne (off := 7) (t := 104) (by decide +kernel) (by decide) rfl rfl rfl (fun h5 => ?_) (fun h5 => ?_)
      · skip
        refine pe_iload (j := 4) (by decide +kernel) rfl ?_
        refine mz_st161 (by decide +kernel) hc hI hz4 (by omega) (by omega) (fun A6 eA6 hIA6 => ?_)
        refine pe_iload (j := 5) (by decide +kernel) rfl ?_
        refine pz_if_eq (off := 36) (t := 145) (by decide +kernel) (by decide) rfl rfl (fun h7 => ?_) (fun h7 => ?_)
        · skip
          refine pe_iconstv (n := 0) (v := 0) (by decide +kernel) (by decide +kernel) ?_
          refine pe_istore (j := 5) (ls' := [.ref 147, .int x1, .int x2, .int x3, .int x4, .int 0, .int x6, .int x7]) (by decide +kernel) (Nat.le_of_ble_eq_true rfl) rfl ?_
          refine pz_iinc (j := 7) (n := 1) (by decide +kernel) rfl rfl (by decide +kernel) (by omega) (by omega) (fun z8 hz8 => ?_)
          show pmE pg X pg_tyl pg_cl (d + 3) 292 151 [.ref 147, .int x1, .int x2, .int x3, .int x4, .int 0, .int x6, .int z8] [] (md wc f A6) _
          refine pe_goto (off := (-81)) (t := 70) (by decide +kernel) (by decide) rfl ?_
          exact ih A6 0 z8 hIA6 (fun k n161 => (upa_fr eA6 n161).trans ((hF k n161))) (by decide +kernel) (by omega) (by omega)
        · skip
          refine pe_aload_n (j := 0) (by decide +kernel) rfl ?_
          refine pe_get (j := 47) (ci := 12) (n := 25) (by decide +kernel) (by decide +kernel) (md_o hc) rfl ?_
          refine pe_bipushv (n := 10) (v := 10) (by decide +kernel) (by decide +kernel) ?_
          refine pe_iload (j := 6) (by decide +kernel) rfl ?_
          refine pz_mul (by decide +kernel) kz_10 rfl (by omega) (by omega) (fun z9 hz9 => ?_)
          refine pe_iload (j := 7) (by decide +kernel) rfl ?_
          refine pz_add (by decide +kernel) hz9 rfl (by omega) (by omega) (fun z10 hz10 => ?_)
          clear hz9
          refine pz_iald (by decide +kernel) (md_a160 hc) (mlen_160 hIA6) hz10 (by omega) (by omega) (fun v11 ev11 => ?_)
          rw [show A6 160 = A0 160 from (upa_fr eA6 (by decide)).trans ((hF 160 (by decide)))] at ev11
          clear hz10
          refine pe_aload_n (j := 0) (by decide +kernel) rfl ?_
          refine pe_get (j := 50) (ci := 12) (n := 26) (by decide +kernel) (by decide +kernel) (md_o hc) rfl ?_
          refine pe_bipushv (n := 10) (v := 10) (by decide +kernel) (by decide +kernel) ?_
          refine pe_iload (j := 6) (by decide +kernel) rfl ?_
          refine pz_mul (by decide +kernel) kz_10 rfl (by omega) (by omega) (fun z12 hz12 => ?_)
          refine pe_iload (j := 7) (by decide +kernel) rfl ?_
          refine pz_add (by decide +kernel) hz12 rfl (by omega) (by omega) (fun z13 hz13 => ?_)
          clear hz12
          refine pz_iald (by decide +kernel) (md_a161 hc) (mlen_161 hIA6) hz13 (by omega) (by omega) (fun v14 ev14 => ?_)
          clear hz13
          have lw16 := zi_lo v11
          have uw16 := zi_hi v11
          have lw17 := zi_lo v14
          have uw17 := zi_hi v14
          refine pz_icmp_gt (off := 7) (t := 145) (by decide +kernel) (by decide) rfl rfl rfl (fun h15 => ?_) (fun h15 => ?_)
          · skip
            refine pe_iconstv (n := 0) (v := 0) (by decide +kernel) (by decide +kernel) ?_
            refine pe_istore (j := 5) (ls' := [.ref 147, .int x1, .int x2, .int x3, .int x4, .int 0, .int x6, .int x7]) (by decide +kernel) (Nat.le_of_ble_eq_true rfl) rfl ?_
            refine pz_iinc (j := 7) (n := 1) (by decide +kernel) rfl rfl (by decide +kernel) (by omega) (by omega) (fun z18 hz18 => ?_)
            show pmE pg X pg_tyl pg_cl (d + 3) 292 151 [.ref 147, .int x1, .int x2, .int x3, .int x4, .int 0, .int x6, .int z18] [] (md wc f A6) _
            refine pe_goto (off := (-81)) (t := 70) (by decide +kernel) (by decide) rfl ?_
            exact ih A6 0 z18 hIA6 (fun k n161 => (upa_fr eA6 n161).trans ((hF k n161))) (by decide +kernel) (by omega) (by omega)
          · skip
            refine pe_iconstv (n := 1) (v := 1) (by decide +kernel) (by decide +kernel) ?_
            refine pe_goto (off := 4) (t := 146) (by decide +kernel) (by decide) rfl ?_
            refine pe_istore (j := 5) (ls' := [.ref 147, .int x1, .int x2, .int x3, .int x4, .int 1, .int x6, .int x7]) (by decide +kernel) (Nat.le_of_ble_eq_true rfl) rfl ?_
            refine pz_iinc (j := 7) (n := 1) (by decide +kernel) rfl rfl (by decide +kernel) (by omega) (by omega) (fun z19 hz19 => ?_)
            show pmE pg X pg_tyl pg_cl (d + 3) 292 151 [.ref 147, .int x1, .int x2, .int x3, .int x4, .int 1, .int x6, .int z19] [] (md wc f A6) _
            refine pe_goto (off := (-81)) (t := 70) (by decide +kernel) (by decide) rfl ?_
            exact ih A6 1 z19 hIA6 (fun k n161 => (upa_fr eA6 n161).trans ((hF k n161))) (by decide +kernel) (by omega) (by omega)
      · skip
        refine pe_iconstv (n := 0) (v := 0) (by decide +kernel) (by decide +kernel) ?_
        refine pe_goto (off := 5) (t := 106) (by decide +kernel) (by decide) rfl ?_
        refine mz_st161 (by decide +kernel) hc hI hz4 (by omega) (by omega) (fun A20 eA20 hIA20 => ?_)
        refine pe_iload (j := 5) (by decide +kernel) rfl ?_
        refine pz_if_eq (off := 36) (t := 145) (by decide +kernel) (by decide) rfl rfl (fun h21 => ?_) (fun h21 => ?_)
        · skip
          refine pe_iconstv (n := 0) (v := 0) (by decide +kernel) (by decide +kernel) ?_
          refine pe_istore (j := 5) (ls' := [.ref 147, .int x1, .int x2, .int x3, .int x4, .int 0, .int x6, .int x7]) (by decide +kernel) (Nat.le_of_ble_eq_true rfl) rfl ?_
          refine pz_iinc (j := 7) (n := 1) (by decide +kernel) rfl rfl (by decide +kernel) (by omega) (by omega) (fun z22 hz22 => ?_)
          show pmE pg X pg_tyl pg_cl (d + 3) 292 151 [.ref 147, .int x1, .int x2, .int x3, .int x4, .int 0, .int x6, .int z22] [] (md wc f A20) _
          refine pe_goto (off := (-81)) (t := 70) (by decide +kernel) (by decide) rfl ?_
          exact ih A20 0 z22 hIA20 (fun k n161 => (upa_fr eA20 n161).trans ((hF k n161))) (by decide +kernel) (by omega) (by omega)
        · skip
          refine pe_aload_n (j := 0) (by decide +kernel) rfl ?_
          refine pe_get (j := 47) (ci := 12) (n := 25) (by decide +kernel) (by decide +kernel) (md_o hc) rfl ?_
          refine pe_bipushv (n := 10) (v := 10) (by decide +kernel) (by decide +kernel) ?_
          refine pe_iload (j := 6) (by decide +kernel) rfl ?_
          refine pz_mul (by decide +kernel) kz_10 rfl (by omega) (by omega) (fun z23 hz23 => ?_)
          refine pe_iload (j := 7) (by decide +kernel) rfl ?_
          refine pz_add (by decide +kernel) hz23 rfl (by omega) (by omega) (fun z24 hz24 => ?_)
          clear hz23
          refine pz_iald (by decide +kernel) (md_a160 hc) (mlen_160 hIA20) hz24 (by omega) (by omega) (fun v25 ev25 => ?_)
          rw [show A20 160 = A0 160 from (upa_fr eA20 (by decide)).trans ((hF 160 (by decide)))] at ev25
          clear hz24
          refine pe_aload_n (j := 0) (by decide +kernel) rfl ?_
          refine pe_get (j := 50) (ci := 12) (n := 26) (by decide +kernel) (by decide +kernel) (md_o hc) rfl ?_
          refine pe_bipushv (n := 10) (v := 10) (by decide +kernel) (by decide +kernel) ?_
          refine pe_iload (j := 6) (by decide +kernel) rfl ?_
          refine pz_mul (by decide +kernel) kz_10 rfl (by omega) (by omega) (fun z26 hz26 => ?_)
          refine pe_iload (j := 7) (by decide +kernel) rfl ?_
          refine pz_add (by decide +kernel) hz26 rfl (by omega) (by omega) (fun z27 hz27 => ?_)
          clear hz26
          refine pz_iald (by decide +kernel) (md_a161 hc) (mlen_161 hIA20) hz27 (by omega) (by omega) (fun v28 ev28 => ?_)
          clear hz27
          have lw30 := zi_lo v25
          have uw30 := zi_hi v25
          have lw31 := zi_lo v28
          have uw31 := zi_hi v28
          refine pz_icmp_gt (off := 7) (t := 145) (by decide +kernel) (by decide) rfl rfl rfl (fun h29 => ?_) (fun h29 => ?_)
          · skip
            refine pe_iconstv (n := 0) (v := 0) (by decide +kernel) (by decide +kernel) ?_
            refine pe_istore (j := 5) (ls' := [.ref 147, .int x1, .int x2, .int x3, .int x4, .int 0, .int x6, .int x7]) (by decide +kernel) (Nat.le_of_ble_eq_true rfl) rfl ?_
            refine pz_iinc (j := 7) (n := 1) (by decide +kernel) rfl rfl (by decide +kernel) (by omega) (by omega) (fun z32 hz32 => ?_)
            show pmE pg X pg_tyl pg_cl (d + 3) 292 151 [.ref 147, .int x1, .int x2, .int x3, .int x4, .int 0, .int x6, .int z32] [] (md wc f A20) _
            refine pe_goto (off := (-81)) (t := 70) (by decide +kernel) (by decide) rfl ?_
            exact ih A20 0 z32 hIA20 (fun k n161 => (upa_fr eA20 n161).trans ((hF k n161))) (by decide +kernel) (by omega) (by omega)
          · skip
            refine pe_iconstv (n := 1) (v := 1) (by decide +kernel) (by decide +kernel) ?_
            refine pe_goto (off := 4) (t := 146) (by decide +kernel) (by decide) rfl ?_
            refine pe_istore (j := 5) (ls' := [.ref 147, .int x1, .int x2, .int x3, .int x4, .int 1, .int x6, .int x7]) (by decide +kernel) (Nat.le_of_ble_eq_true rfl) rfl ?_
            refine pz_iinc (j := 7) (n := 1) (by decide +kernel) rfl rfl (by decide +kernel) (by omega) (by omega) (fun z33 hz33 => ?_)
            show pmE pg X pg_tyl pg_cl (d + 3) 292 151 [.ref 147, .int x1, .int x2, .int x3, .int x4, .int 1, .int x6, .int z33] [] (md wc f A20) _
            refine pe_goto (off := (-81)) (t := 70) (by decide +kernel) (by decide) rfl ?_
            exact ih A20 1 z33 hIA20 (fun k n161 => (upa_fr eA20 n161).trans ((hF k n161))) (by decide +kernel) (by omega) (by omega)
set_option maxRecDepth 100000 in
set_option maxHeartbeats 8000000 in
theorem NL_292_56 {X : pm_X} {d : Nat} {wc : pm_W} {Q : pm_R → Prop} {f : Nat → Int32} {A0 : Nat → List Int32} {x1 x2 x3 x4 : Int32} (hc : wc.length = 147) (gx1 : (0 ≤ x1.toInt ∧ x1.toInt ≤ 1)) (gx2 : (610 ≤ x2.toInt ∧ x2.toInt ≤ 742 ∧ (x2.toInt - 610) % 132 = 0)) (gx3 : (0 ≤ x3.toInt ∧ x3.toInt ≤ 127)) (gx4 : (0 ≤ x4.toInt ∧ x4.toInt ≤ 99)) (k_160_0 : ∀ (A' : Nat → List Int32) (y5 : Int32) (y6 : Int32) (v7 : Value), MI f A' → (∀ k : Nat, k ≠ 161 → A' k = A0 k) → (0 ≤ y5.toInt ∧ y5.toInt ≤ 1) → (0 ≤ y6.toInt ∧ y6.toInt ≤ 9) → pmE pg X pg_tyl pg_cl (d + 3) 292 160 [.ref 147, .int x1, .int x2, .int x3, .int x4, .int y5, .int y6, v7] [] (md wc f A') Q) : ∀ (m : Nat) (A : Nat → List Int32) (x5 : Int32) (x6 : Int32) (u7 : Value), MI f A → (∀ k : Nat, k ≠ 161 → A k = A0 k) → (0 ≤ x5.toInt ∧ x5.toInt ≤ 1) → (0 ≤ x6.toInt ∧ x6.toInt ≤ 9) → 9 - x6.toInt < (m : Int) → pmE pg X pg_tyl pg_cl (d + 3) 292 56 [.ref 147, .int x1, .int x2, .int x3, .int x4, .int x5, .int x6, u7] [] (md wc f A) Q := by
  intro m
  induction m with
  | zero =>
    intro A x5 x6 u7 hI hF gx5 gx6 hm
    exfalso
    have l0 := zi_lo x6
    have u0 := zi_hi x6
    omega
  | succ m ih =>
    intro A x5 x6 u7 hI hF gx5 gx6 hm
    refine pe_iload (j := 6) (by decide +kernel) rfl ?_
    refine pe_aload_n (j := 0) (by decide +kernel) rfl ?_
    refine pe_get (j := 7) (ci := 12) (n := 0) (by decide +kernel) (by decide +kernel) (md_o hc) rfl ?_
    refine pe_iload_n (j := 2) (by decide +kernel) rfl ?_
    refine pz_iald (by decide +kernel) (md_a148 hc) (mlen_148 hI) rfl (by omega) (by omega) (fun v1 ev1 => ?_)
    have rv1 : 0 ≤ v1.toInt ∧ v1.toInt ≤ 9 := MT_people (mt_148 hI ev1 (by omega)) (by omega)
    rw [show A 148 = A0 148 from (hF 148 (by decide))] at ev1
    refine pz_icmp_ge (off := 96) (t := 160) (by decide +kernel) (by decide) rfl rfl rfl (fun h2 => ?_) (fun h2 => ?_)
    · skip
      exact k_160_0 A x5 x6 (u7) hI (fun k n161 => (hF k n161)) (by omega) (by omega)
    · skip
      refine pe_iconstv (n := 0) (v := 0) (by decide +kernel) (by decide +kernel) ?_
      refine pe_istore (j := 7) (ls' := [.ref 147, .int x1, .int x2, .int x3, .int x4, .int x5, .int x6, .int 0]) (by decide +kernel) (Nat.le_of_ble_eq_true rfl) rfl ?_
      refine NL_292_70 hc (by omega) (by omega) (by omega) (by omega) (by omega) (fun A3 y4 y5 hIy6 hFA3 gy4 gy5 => ?_) 10 A x5 0 hI (fun k _ => rfl) (by omega) (by decide +kernel) (by decide +kernel)
      refine pz_iinc (j := 6) (n := 1) (by decide +kernel) rfl rfl (by decide +kernel) (by omega) (by omega) (fun z7 hz7 => ?_)
      show pmE pg X pg_tyl pg_cl (d + 3) 292 157 [.ref 147, .int x1, .int x2, .int x3, .int x4, .int y4, .int z7, .int y5] [] (md wc f A3) _
      refine pe_goto (off := (-101)) (t := 56) (by decide +kernel) (by decide) rfl ?_
      exact ih A3 y4 z7 (.int y5) hIy6 (fun k n161 => ((hFA3 k n161)).trans ((hF k n161))) (by omega) (by omega) (by omega)
set_option maxRecDepth 100000 in
set_option maxHeartbeats 8000000 in
theorem NL_292_37 {X : pm_X} {d : Nat} {wc : pm_W} {Q : pm_R → Prop} {f : Nat → Int32} {A0 : Nat → List Int32} {x1 x2 x3 : Int32} (hc : wc.length = 147) (gx1 : (0 ≤ x1.toInt ∧ x1.toInt ≤ 1)) (gx2 : (610 ≤ x2.toInt ∧ x2.toInt ≤ 742 ∧ (x2.toInt - 610) % 132 = 0)) (gx3 : (0 ≤ x3.toInt ∧ x3.toInt ≤ 127)) (k_181_0 : ∀ (A' : Nat → List Int32) (y4 : Int32) (v5 : Value) (v6 : Value) (v7 : Value), MI f A' → (∀ k : Nat, k ≠ 160 → k ≠ 161 → k ≠ 162 → k ≠ 163 → k ≠ 164 → A' k = A0 k) → (100 ≤ y4.toInt ∧ y4.toInt ≤ 100) → pmE pg X pg_tyl pg_cl (d + 3) 292 181 [.ref 147, .int x1, .int x2, .int x3, .int y4, v5, v6, v7] [] (md wc f A') Q) (kr_v : ∀ (A' : Nat → List Int32) (r : Int32), MI f A' → (∀ k : Nat, k ≠ 160 → k ≠ 161 → k ≠ 162 → k ≠ 163 → k ≠ 164 → A' k = A0 k) → (0 ≤ r.toInt ∧ r.toInt ≤ 99) → Q (some (.int r), md wc f A', 0, 0)) : ∀ (m : Nat) (A : Nat → List Int32) (x4 : Int32) (u5 : Value) (u6 : Value) (u7 : Value), MI f A → (∀ k : Nat, k ≠ 160 → k ≠ 161 → k ≠ 162 → k ≠ 163 → k ≠ 164 → A k = A0 k) → (0 ≤ x4.toInt ∧ x4.toInt ≤ 100) → 100 - x4.toInt < (m : Int) → pmE pg X pg_tyl pg_cl (d + 3) 292 37 [.ref 147, .int x1, .int x2, .int x3, .int x4, u5, u6, u7] [] (md wc f A) Q := by
  intro m
  induction m with
  | zero =>
    intro A x4 u5 u6 u7 hI hF gx4 hm
    exfalso
    have l0 := zi_lo x4
    have u0 := zi_hi x4
    omega
  | succ m ih =>
    intro A x4 u5 u6 u7 hI hF gx4 hm
    refine pe_iload (j := 4) (by decide +kernel) rfl ?_
    refine pe_bipushv (n := 100) (v := 100) (by decide +kernel) (by decide +kernel) ?_
    refine pz_icmp_ge (off := 140) (t := 181) (by decide +kernel) (by decide) rfl rfl kz_100 (fun h1 => ?_) (fun h1 => ?_)
    · skip
      exact k_181_0 A x4 (u5) (u6) (u7) hI (fun k n160 n161 n162 n163 n164 => (hF k n160 n161 n162 n163 n164)) (by omega)
    · skip
      refine pe_aload_n (j := 0) (by decide +kernel) rfl ?_
      refine pe_iload_n (j := 2) (by decide +kernel) rfl ?_
      refine pe_iload_n (j := 3) (by decide +kernel) rfl ?_
      refine pz_callV (j := 331) (mj := 285) (by decide +kernel) (cll_V (args := [.int x3, .int x2]) (n := 2) (by decide +kernel) rfl rfl (md_o hc) (by decide +kernel) (Nat.le_of_ble_eq_true rfl) (Nat.le_of_ble_eq_true rfl)) (NM_285 hc hI (by omega)) (fun q2a q2b q2c q2d hqq2 => ?_)
      obtain ⟨A3, eq2, hIq2, hFq2, kq2⟩ := hqq2
      cases eq2
      refine ⟨rfl, rfl, ?_⟩
      obtain ⟨hp4, kq2⟩ := kq2
      have hq5 := AK_q hp4 (by decide)
      show pmE pg X pg_tyl pg_cl (d + 3) 292 50 [.ref 147, .int x1, .int x2, .int x3, .int x4, u5, u6, u7] [] (md wc f A3) _
      refine pe_iconstv (n := 1) (v := 1) (by decide +kernel) (by decide +kernel) ?_
      refine pe_istore (j := 5) (ls' := [.ref 147, .int x1, .int x2, .int x3, .int x4, .int 1, u6, u7]) (by decide +kernel) (Nat.le_of_ble_eq_true rfl) rfl ?_
      refine pe_iconstv (n := 0) (v := 0) (by decide +kernel) (by decide +kernel) ?_
      refine pe_istore (j := 6) (ls' := [.ref 147, .int x1, .int x2, .int x3, .int x4, .int 1, .int 0, u7]) (by decide +kernel) (Nat.le_of_ble_eq_true rfl) rfl ?_
      refine NL_292_56 hc (by omega) (by omega) (by omega) (by omega) (fun A6 y7 y8 u9 hIy10 hFA6 gy7 gy8 => ?_) 10 A3 1 0 (u7) hIq2 (fun k _ => rfl) (by decide +kernel) (by decide +kernel) (by decide +kernel)
      refine pe_iload (j := 5) (by decide +kernel) rfl ?_
      refine pz_if_eq (off := 13) (t := 175) (by decide +kernel) (by decide) rfl rfl (fun h11 => ?_) (fun h11 => ?_)
      · skip
        refine pz_iinc (j := 4) (n := 1) (by decide +kernel) rfl rfl (by decide +kernel) (by omega) (by omega) (fun z12 hz12 => ?_)
        show pmE pg X pg_tyl pg_cl (d + 3) 292 178 [.ref 147, .int x1, .int x2, .int x3, .int z12, .int y7, .int y8, u9] [] (md wc f A6) _
        refine pe_goto (off := (-141)) (t := 37) (by decide +kernel) (by decide) rfl ?_
        exact ih A6 z12 (.int y7) (.int y8) (u9) hIy10 (fun k n160 n161 n162 n163 n164 => ((hFA6 k n161)).trans (((hFq2 k n160 n161 n162 n163)).trans ((hF k n160 n161 n162 n163 n164)))) (by omega) (by omega)
      · skip
        refine pe_aload_n (j := 0) (by decide +kernel) rfl ?_
        have hq13 : (∀ j : Int, (0) ≤ j → j < (10) → (-1000000) ≤ ((A6 163).getD j.toNat 0).toInt ∧ ((A6 163).getD j.toNat 0).toInt ≤ 1000000) := by
          intro j h1 h2
          rw [show A6 163 = A3 163 from (hFA6 163 (by decide))]
          first
          | (exfalso; omega)
          | exact hq5 j (by omega) (by omega)
        refine pz_callV (j := 327) (mj := 278) (by decide +kernel) (cll_V (args := []) (n := 0) (by decide +kernel) rfl rfl (md_o hc) (by decide +kernel) (Nat.le_of_ble_eq_true rfl) (Nat.le_of_ble_eq_true rfl)) (NM_278 hc hIy10 hq13) (fun q14a q14b q14c q14d hqq14 => ?_)
        obtain ⟨A15, rq14, eq14, hIq14, hFq14, kq14⟩ := hqq14
        cases eq14
        refine ⟨rfl, rfl, ?_⟩
        obtain ⟨kfq14, kq14⟩ := kq14
        obtain ⟨hq16, kq14⟩ := kq14
        show pmE pg X pg_tyl pg_cl (d + 3) 292 169 [.ref 147, .int x1, .int x2, .int x3, .int x4, .int y7, .int y8, u9] [.int rq14] (md wc f A15) _
        refine pz_if_eq (off := 6) (t := 175) (by decide +kernel) (by decide) rfl rfl (fun h17 => ?_) (fun h17 => ?_)
        · skip
          refine pz_iinc (j := 4) (n := 1) (by decide +kernel) rfl rfl (by decide +kernel) (by omega) (by omega) (fun z18 hz18 => ?_)
          show pmE pg X pg_tyl pg_cl (d + 3) 292 178 [.ref 147, .int x1, .int x2, .int x3, .int z18, .int y7, .int y8, u9] [] (md wc f A15) _
          refine pe_goto (off := (-141)) (t := 37) (by decide +kernel) (by decide) rfl ?_
          exact ih A15 z18 (.int y7) (.int y8) (u9) hIq14 (fun k n160 n161 n162 n163 n164 => ((hFq14 k n162 n163 n164)).trans (((hFA6 k n161)).trans (((hFq2 k n160 n161 n162 n163)).trans ((hF k n160 n161 n162 n163 n164))))) (by omega) (by omega)
        · skip
          refine pe_iload (j := 4) (by decide +kernel) rfl ?_
          exact pe_iret (by decide +kernel) rfl rfl (kr_v A15 x4 hIq14 (fun k n160 n161 n162 n163 n164 => ((hFq14 k n162 n163 n164)).trans (((hFA6 k n161)).trans (((hFq2 k n160 n161 n162 n163)).trans ((hF k n160 n161 n162 n163 n164))))) (by omega))
set_option maxRecDepth 100000 in
set_option maxHeartbeats 8000000 in
theorem NM_292 {X : pm_X} {d : Nat} {wc : pm_W} {f : Nat → Int32} {A : Nat → List Int32} {x1 : Int32} (hc : wc.length = 147) (hI : MI f A) : pmE pg X pg_tyl pg_cl (d + 3) 292 0 (pm_ent (pm_max pg 292) [.ref 147, .int x1]) [] (md wc f A) (fun q => ∃ (f' : Nat → Int32) (A' : Nat → List Int32) (r : Int32), q = (some (.int r), md wc f' A', 0, 0) ∧ MI f' A' ∧ (∀ k : Nat, k ≠ 14 → k ≠ 15 → f' k = f k) ∧ (∀ k : Nat, k ≠ 152 → k ≠ 160 → k ≠ 161 → k ≠ 162 → k ≠ 163 → k ≠ 164 → A' k = A k) ∧ ((((-1) ≤ r.toInt ∧ r.toInt ≤ 99) ∧ True))) := by
  show pmE pg X pg_tyl pg_cl (d + 3) 292 0 [.ref 147, .int x1, pm_dead, pm_dead, pm_dead, pm_dead, pm_dead, pm_dead] [] (md wc f A) _
  refine pe_aload_n (j := 0) (by decide +kernel) rfl ?_
  refine pe_iconstv (n := 0) (v := 0) (by decide +kernel) (by decide +kernel) ?_
  refine pe_iload_n (j := 1) (by decide +kernel) rfl ?_
  refine pi_V (j := 153) (mj := 200) (by decide +kernel) (cll_V (args := [.int x1, .int 0]) (n := 2) (by decide +kernel) rfl rfl (md_o hc) (by decide +kernel) (Nat.le_of_ble_eq_true rfl) (Nat.le_of_ble_eq_true rfl)) ?_
  show pmE pg X pg_tyl pg_cl (d + 2) 200 0 [.ref 147, .int 0, .int x1] [] (md wc f A) _
  refine pe_iload_n (j := 2) (by decide +kernel) rfl ?_
  refine pe_iconstv (n := 0) (v := 0) (by decide +kernel) (by decide +kernel) ?_
  refine pe_aload_n (j := 0) (by decide +kernel) rfl ?_
  refine pe_get (j := 7) (ci := 12) (n := 0) (by decide +kernel) (by decide +kernel) (md_o hc) rfl ?_
  refine pe_iload_n (j := 1) (by decide +kernel) rfl ?_
  refine pz_iald (by decide +kernel) (md_a148 hc) (mlen_148 hI) kz_0 (by omega) (by omega) (fun v1 ev1 => ?_)
  have rv1 : 0 ≤ v1.toInt ∧ v1.toInt ≤ 2 := MT_c0 (mt_148 hI ev1 (by omega)) (by omega)
  refine pe_iconstv (n := 1) (v := 1) (by decide +kernel) (by decide +kernel) ?_
  refine pz_sub (by decide +kernel) rfl kz_1 (by omega) (by omega) (fun z2 hz2 => ?_)
  refine pi_S (j := 119) (mj := 199) (by decide +kernel) (by decide +kernel) rfl ?_
  show pmE pg X pg_tyl pg_cl (d + 1) 199 0 [.int x1, .int 0, .int z2] [] (md wc f A) _
  refine pe_iload_n (j := 0) (by decide +kernel) rfl ?_
  refine pe_iload_n (j := 1) (by decide +kernel) rfl ?_
  have lw4 := zi_lo x1
  have uw4 := zi_hi x1
  refine pz_icmp_lt (off := 12) (t := 14) (by decide +kernel) (by decide) rfl rfl kz_0 (fun h3 => ?_) (fun h3 => ?_)
  · skip
    refine pe_iconstv (n := 0) (v := 0) (by decide +kernel) (by decide +kernel) ?_
    refine pe_iret (by decide +kernel) rfl rfl ⟨rfl, rfl, ?_⟩
    show pmE pg X pg_tyl pg_cl (d + 2) 200 13 [.ref 147, .int 0, .int x1] [.int 0] (md wc f A) _
    refine pe_iret (by decide +kernel) rfl rfl ⟨rfl, rfl, ?_⟩
    show pmE pg X pg_tyl pg_cl (d + 3) 292 6 [.ref 147, .int x1, pm_dead, pm_dead, pm_dead, pm_dead, pm_dead, pm_dead] [.int 0] (md wc f A) _
    refine pz_if_ne (off := 5) (t := 11) (by decide +kernel) (by decide) rfl kz_0 (fun h5 => by omega) (fun h5 => ?_)
    refine pe_iconstv (n := (-1)) (v := (-1)) (by decide +kernel) (by decide +kernel) ?_
    exact pe_iret (by decide +kernel) rfl rfl ⟨f, A, (-1), rfl, hI, (fun k n14 n15 => rfl), (fun k n152 n160 n161 n162 n163 n164 => rfl), ⟨(by decide +kernel), trivial⟩⟩
  · skip
    refine pe_iload_n (j := 0) (by decide +kernel) rfl ?_
    refine pe_iload_n (j := 2) (by decide +kernel) rfl ?_
    refine pz_icmp_gt (off := 7) (t := 14) (by decide +kernel) (by decide) rfl rfl hz2 (fun h6 => ?_) (fun h6 => ?_)
    · skip
      refine pe_iconstv (n := 0) (v := 0) (by decide +kernel) (by decide +kernel) ?_
      refine pe_iret (by decide +kernel) rfl rfl ⟨rfl, rfl, ?_⟩
      show pmE pg X pg_tyl pg_cl (d + 2) 200 13 [.ref 147, .int 0, .int x1] [.int 0] (md wc f A) _
      refine pe_iret (by decide +kernel) rfl rfl ⟨rfl, rfl, ?_⟩
      show pmE pg X pg_tyl pg_cl (d + 3) 292 6 [.ref 147, .int x1, pm_dead, pm_dead, pm_dead, pm_dead, pm_dead, pm_dead] [.int 0] (md wc f A) _
      refine pz_if_ne (off := 5) (t := 11) (by decide +kernel) (by decide) rfl kz_0 (fun h7 => by omega) (fun h7 => ?_)
      refine pe_iconstv (n := (-1)) (v := (-1)) (by decide +kernel) (by decide +kernel) ?_
      exact pe_iret (by decide +kernel) rfl rfl ⟨f, A, (-1), rfl, hI, (fun k n14 n15 => rfl), (fun k n152 n160 n161 n162 n163 n164 => rfl), ⟨(by decide +kernel), trivial⟩⟩
    · skip
      refine pe_iconstv (n := 1) (v := 1) (by decide +kernel) (by decide +kernel) ?_
      refine pe_goto (off := 4) (t := 15) (by decide +kernel) (by decide) rfl ?_
      refine pe_iret (by decide +kernel) rfl rfl ⟨rfl, rfl, ?_⟩
      show pmE pg X pg_tyl pg_cl (d + 2) 200 13 [.ref 147, .int 0, .int x1] [.int 1] (md wc f A) _
      refine pe_iret (by decide +kernel) rfl rfl ⟨rfl, rfl, ?_⟩
      show pmE pg X pg_tyl pg_cl (d + 3) 292 6 [.ref 147, .int x1, pm_dead, pm_dead, pm_dead, pm_dead, pm_dead, pm_dead] [.int 1] (md wc f A) _
      refine pz_if_ne (off := 5) (t := 11) (by decide +kernel) (by decide) rfl kz_1 (fun h8 => ?_) (fun h8 => by omega)
      refine pe_iconstv (n := 0) (v := 0) (by decide +kernel) (by decide +kernel) ?_
      refine pe_iload_n (j := 1) (by decide +kernel) rfl ?_
      refine pi_S (j := 163) (mj := 217) (by decide +kernel) (by decide +kernel) rfl ?_
      show pmE pg X pg_tyl pg_cl (d + 2) 217 0 [.int 0, .int x1] [] (md wc f A) _
      refine pe_iload_n (j := 0) (by decide +kernel) rfl ?_
      refine pz_if_ne (off := 15) (t := 16) (by decide +kernel) (by decide) rfl kz_0 (fun h9 => by omega) (fun h9 => ?_)
      refine pe_sipushv (n := 610) (v := 610) (by decide +kernel) (by decide +kernel) ?_
      refine pe_sipushv (n := 132) (v := 132) (by decide +kernel) (by decide +kernel) ?_
      refine pe_iload_n (j := 1) (by decide +kernel) rfl ?_
      refine pz_mul (by decide +kernel) kz_132 rfl (by omega) (by omega) (fun z10 hz10 => ?_)
      refine pz_add (by decide +kernel) kz_610 hz10 (by omega) (by omega) (fun z11 hz11 => ?_)
      clear hz10
      refine pe_goto (off := 12) (t := 25) (by decide +kernel) (by decide) rfl ?_
      refine pe_iret (by decide +kernel) rfl rfl ⟨rfl, rfl, ?_⟩
      show pmE pg X pg_tyl pg_cl (d + 3) 292 16 [.ref 147, .int x1, pm_dead, pm_dead, pm_dead, pm_dead, pm_dead, pm_dead] [.int z11] (md wc f A) _
      refine pe_istore_n (j := 2) (ls' := [.ref 147, .int x1, .int z11, pm_dead, pm_dead, pm_dead, pm_dead, pm_dead]) (by decide +kernel) (Nat.le_of_ble_eq_true rfl) rfl ?_
      refine pe_iconstv (n := 1) (v := 1) (by decide +kernel) (by decide +kernel) ?_
      refine pe_aload_n (j := 0) (by decide +kernel) rfl ?_
      refine pe_get (j := 7) (ci := 12) (n := 0) (by decide +kernel) (by decide +kernel) (md_o hc) rfl ?_
      refine pe_iload_n (j := 2) (by decide +kernel) rfl ?_
      refine pe_iconstv (n := 1) (v := 1) (by decide +kernel) (by decide +kernel) ?_
      refine pz_add (by decide +kernel) hz11 kz_1 (by omega) (by omega) (fun z12 hz12 => ?_)
      refine pz_iald (by decide +kernel) (md_a148 hc) (mlen_148 hI) hz12 (by omega) (by omega) (fun v13 ev13 => ?_)
      have rv13 : 0 ≤ v13.toInt ∧ v13.toInt ≤ 7 := MT_wants (mt_148 hI ev13 (by omega)) (by omega)
      clear hz12
      refine pz_shl7 (by decide +kernel) rfl (by omega) (by omega) (fun z14 hz14 => ?_)
      refine pe_iconstv (n := 1) (v := 1) (by decide +kernel) (by decide +kernel) ?_
      refine pz_sub (by decide +kernel) rfl kz_1 (by omega) (by omega) (fun z15 hz15 => ?_)
      refine pe_istore_n (j := 3) (ls' := [.ref 147, .int x1, .int z11, .int z15, pm_dead, pm_dead, pm_dead, pm_dead]) (by decide +kernel) (Nat.le_of_ble_eq_true rfl) rfl ?_
      refine pe_aload_n (j := 0) (by decide +kernel) rfl ?_
      refine pz_callV (j := 214) (mj := 229) (by decide +kernel) (cll_V (args := []) (n := 0) (by decide +kernel) rfl rfl (md_o hc) (by decide +kernel) (Nat.le_of_ble_eq_true rfl) (Nat.le_of_ble_eq_true rfl)) (MM_229 hc hI) (fun q16a q16b q16c q16d hqq16 => ?_)
      obtain ⟨f17, A18, eq16, hIq16, hGq16, hFq16, hX0q16, kq16⟩ := hqq16
      cases eq16
      refine ⟨rfl, rfl, ?_⟩
      have hr_f17_14 := mf_14 hIq16
      show pmE pg X pg_tyl pg_cl (d + 3) 292 34 [.ref 147, .int x1, .int z11, .int z15, pm_dead, pm_dead, pm_dead, pm_dead] [] (md wc f17 A18) _
      refine pe_iconstv (n := 0) (v := 0) (by decide +kernel) (by decide +kernel) ?_
      refine pe_istore (j := 4) (ls' := [.ref 147, .int x1, .int z11, .int z15, .int 0, pm_dead, pm_dead, pm_dead]) (by decide +kernel) (Nat.le_of_ble_eq_true rfl) rfl ?_
      refine NL_292_37 hc (by omega) (by omega) (by omega) (fun A19 y20 u21 u22 u23 hIy24 hFA19 gy20 => ?_) (fun A25 r26 hIy27 hFA25 gr26 => ⟨f17, A25, r26, rfl, hIy27, (fun k n14 n15 => (hGq16 k n14 n15)), (fun k n152 n160 n161 n162 n163 n164 => ((hFA25 k n160 n161 n162 n163 n164)).trans ((hFq16 k n152))), ⟨(by omega), trivial⟩⟩) 101 A18 0 (pm_dead) (pm_dead) (pm_dead) hIq16 (fun k _ _ _ _ _ => rfl) (by decide +kernel) (by decide +kernel)
      refine pe_iconstv (n := (-1)) (v := (-1)) (by decide +kernel) (by decide +kernel) ?_
      exact pe_iret (by decide +kernel) rfl rfl ⟨f17, A19, (-1), rfl, hIy24, (fun k n14 n15 => (hGq16 k n14 n15)), (fun k n152 n160 n161 n162 n163 n164 => ((hFA19 k n160 n161 n162 n163 n164)).trans ((hFq16 k n152))), ⟨(by decide +kernel), trivial⟩⟩
set_option maxRecDepth 100000 in
set_option maxHeartbeats 8000000 in
theorem NM_306 {X : pm_X} {d : Nat} {wc : pm_W} {f : Nat → Int32} {A : Nat → List Int32} {x1 x2 x3 : Int32} (hc : wc.length = 147) (hI : MI f A) : pmE pg X pg_tyl pg_cl (d + 7) 306 0 (pm_ent (pm_max pg 306) [.ref 147, .int x1, .int x2, .int x3]) [] (md wc f A) (fun q => ∃ (f' : Nat → Int32) (A' : Nat → List Int32) (r : Int32), q = (some (.int r), md wc f' A', 0, 0) ∧ MI f' A' ∧ (∀ k : Nat, k ≠ 14 → k ≠ 15 → k ≠ 16 → k ≠ 23 → k ≠ 24 → k ≠ 35 → f' k = f k) ∧ (∀ k : Nat, k ≠ 152 → k ≠ 153 → k ≠ 158 → k ≠ 159 → k ≠ 160 → k ≠ 161 → k ≠ 162 → k ≠ 163 → k ≠ 164 → k ≠ 166 → A' k = A k) ∧ ((True ∧ True))) := by
  show pmE pg X pg_tyl pg_cl (d + 7) 306 0 [.ref 147, .int x1, .int x2, .int x3, pm_dead, pm_dead] [] (md wc f A) _
  refine pe_aload_n (j := 0) (by decide +kernel) rfl ?_
  refine pe_iload_n (j := 1) (by decide +kernel) rfl ?_
  refine pe_iload_n (j := 2) (by decide +kernel) rfl ?_
  refine pe_iload_n (j := 3) (by decide +kernel) rfl ?_
  refine pz_callV (j := 232) (mj := 246) (by decide +kernel) (cll_V (args := [.int x3, .int x2, .int x1]) (n := 3) (by decide +kernel) rfl rfl (md_o hc) (by decide +kernel) (Nat.le_of_ble_eq_true rfl) (Nat.le_of_ble_eq_true rfl)) (MM_246 hc hI) (fun q1a q1b q1c q1d hqq1 => ?_)
  obtain ⟨f2, A3, rq1, eq1, hIq1, hGq1, hFq1, kq1⟩ := hqq1
  cases eq1
  refine ⟨rfl, rfl, ?_⟩
  rcases kq1 with kq1 | kq1
  · skip
    obtain ⟨erq1, kq1⟩ := kq1
    subst erq1
    show pmE pg X pg_tyl pg_cl (d + 7) 306 7 [.ref 147, .int x1, .int x2, .int x3, pm_dead, pm_dead] [.int 0] (md wc f2 A3) _
    refine pz_if_ne (off := 6) (t := 13) (by decide +kernel) (by decide) rfl kz_0 (fun h4 => by omega) (fun h4 => ?_)
    refine pe_ldc (j := 239) (v := (-100000)) (by decide +kernel) (by decide +kernel) ?_
    exact pe_iret (by decide +kernel) rfl rfl ⟨f2, A3, (-100000), rfl, hIq1, (fun k n14 n15 n16 n23 n24 n35 => (hGq1 k n14 n15 n16)), (fun k n152 n153 n158 n159 n160 n161 n162 n163 n164 n166 => (hFq1 k n152 n153)), ⟨trivial, trivial⟩⟩
  · skip
    obtain ⟨erq1, kq1⟩ := kq1
    subst erq1
    show pmE pg X pg_tyl pg_cl (d + 7) 306 7 [.ref 147, .int x1, .int x2, .int x3, pm_dead, pm_dead] [.int 1] (md wc f2 A3) _
    refine pz_if_ne (off := 6) (t := 13) (by decide +kernel) (by decide) rfl kz_1 (fun h5 => ?_) (fun h5 => by omega)
    refine pe_iconstv (n := 0) (v := 0) (by decide +kernel) (by decide +kernel) ?_
    refine pe_iload_n (j := 1) (by decide +kernel) rfl ?_
    refine pi_S (j := 163) (mj := 217) (by decide +kernel) (by decide +kernel) rfl ?_
    show pmE pg X pg_tyl pg_cl (d + 6) 217 0 [.int 0, .int x1] [] (md wc f2 A3) _
    refine pe_iload_n (j := 0) (by decide +kernel) rfl ?_
    refine pz_if_ne (off := 15) (t := 16) (by decide +kernel) (by decide) rfl kz_0 (fun h6 => by omega) (fun h6 => ?_)
    refine pe_sipushv (n := 610) (v := 610) (by decide +kernel) (by decide +kernel) ?_
    refine pe_sipushv (n := 132) (v := 132) (by decide +kernel) (by decide +kernel) ?_
    refine pe_iload_n (j := 1) (by decide +kernel) rfl ?_
    refine pz_mul (by decide +kernel) kz_132 rfl (by omega) (by omega) (fun z7 hz7 => ?_)
    refine pz_add (by decide +kernel) kz_610 hz7 (by omega) (by omega) (fun z8 hz8 => ?_)
    clear hz7
    refine pe_goto (off := 12) (t := 25) (by decide +kernel) (by decide) rfl ?_
    refine pe_iret (by decide +kernel) rfl rfl ⟨rfl, rfl, ?_⟩
    show pmE pg X pg_tyl pg_cl (d + 7) 306 18 [.ref 147, .int x1, .int x2, .int x3, pm_dead, pm_dead] [.int z8] (md wc f2 A3) _
    refine pe_istore (j := 4) (ls' := [.ref 147, .int x1, .int x2, .int x3, .int z8, pm_dead]) (by decide +kernel) (Nat.le_of_ble_eq_true rfl) rfl ?_
    refine pe_aload_n (j := 0) (by decide +kernel) rfl ?_
    refine pe_iload (j := 4) (by decide +kernel) rfl ?_
    refine pe_aload_n (j := 0) (by decide +kernel) rfl ?_
    refine pe_iload (j := 4) (by decide +kernel) rfl ?_
    refine pe_iconstv (n := 0) (v := 0) (by decide +kernel) (by decide +kernel) ?_
    refine pe_iconstv (n := (-1)) (v := (-1)) (by decide +kernel) (by decide +kernel) ?_
    refine pz_callV (j := 346) (mj := 287) (by decide +kernel) (cll_V (args := [.int (-1), .int 0, .int z8]) (n := 3) (by decide +kernel) rfl rfl (md_o hc) (by decide +kernel) (Nat.le_of_ble_eq_true rfl) (Nat.le_of_ble_eq_true rfl)) (NM_287 hc hIq1 (by omega)) (fun q9a q9b q9c q9d hqq9 => ?_)
    obtain ⟨A10, rq9, eq9, hIq9, hFq9, kq9⟩ := hqq9
    cases eq9
    refine ⟨rfl, rfl, ?_⟩
    show pmE pg X pg_tyl pg_cl (d + 7) 306 31 [.ref 147, .int x1, .int x2, .int x3, .int z8, pm_dead] [.int rq9, .int z8, .ref 147] (md wc f2 A10) _
    refine pz_callV (j := 340) (mj := 288) (by decide +kernel) (cll_V (args := [.int rq9, .int z8]) (n := 2) (by decide +kernel) rfl rfl (md_o hc) (by decide +kernel) (Nat.le_of_ble_eq_true rfl) (Nat.le_of_ble_eq_true rfl)) (MM_288 hc hIq9 (by omega)) (fun q11a q11b q11c q11d hqq11 => ?_)
    obtain ⟨rq11, eq11, kq11⟩ := hqq11
    cases eq11
    refine ⟨rfl, rfl, ?_⟩
    show pmE pg X pg_tyl pg_cl (d + 7) 306 34 [.ref 147, .int x1, .int x2, .int x3, .int z8, pm_dead] [.int rq11] (md wc f2 A10) _
    refine pe_istore (j := 5) (ls' := [.ref 147, .int x1, .int x2, .int x3, .int z8, .int rq11]) (by decide +kernel) (Nat.le_of_ble_eq_true rfl) rfl ?_
    refine pe_aload_n (j := 0) (by decide +kernel) rfl ?_
    refine pe_iload (j := 4) (by decide +kernel) rfl ?_
    refine pe_iconstv (n := 0) (v := 0) (by decide +kernel) (by decide +kernel) ?_
    refine pz_callV (j := 374) (mj := 305) (by decide +kernel) (cll_V (args := [.int 0, .int z8]) (n := 2) (by decide +kernel) rfl rfl (md_o hc) (by decide +kernel) (Nat.le_of_ble_eq_true rfl) (Nat.le_of_ble_eq_true rfl)) (MM_305 hc hIq9 (by omega)) (fun q12a q12b q12c q12d hqq12 => ?_)
    obtain ⟨f13, A14, eq12, hIq12, hGq12, hFq12, kq12⟩ := hqq12
    cases eq12
    refine ⟨rfl, rfl, ?_⟩
    show pmE pg X pg_tyl pg_cl (d + 7) 306 43 [.ref 147, .int x1, .int x2, .int x3, .int z8, .int rq11] [] (md wc f13 A14) _
    refine pe_iload (j := 5) (by decide +kernel) rfl ?_
    refine pe_aload_n (j := 0) (by decide +kernel) rfl ?_
    refine pe_iload (j := 4) (by decide +kernel) rfl ?_
    refine pe_aload_n (j := 0) (by decide +kernel) rfl ?_
    refine pe_get (j := 371) (ci := 12) (n := 35) (by decide +kernel) (by decide +kernel) (md_o hc) rfl ?_
    refine pz_callV (j := 340) (mj := 288) (by decide +kernel) (cll_V (args := [.int (f13 35), .int z8]) (n := 2) (by decide +kernel) rfl rfl (md_o hc) (by decide +kernel) (Nat.le_of_ble_eq_true rfl) (Nat.le_of_ble_eq_true rfl)) (MM_288 hc hIq12 (by omega)) (fun q15a q15b q15c q15d hqq15 => ?_)
    obtain ⟨rq15, eq15, kq15⟩ := hqq15
    cases eq15
    refine ⟨rfl, rfl, ?_⟩
    show pmE pg X pg_tyl pg_cl (d + 7) 306 55 [.ref 147, .int x1, .int x2, .int x3, .int z8, .int rq11] [.int rq15, .int rq11] (md wc f13 A14) _
    refine pw_sub (by decide +kernel) (fun z16 => ?_)
    exact pe_iret (by decide +kernel) rfl rfl ⟨f13, A14, z16, rfl, hIq12, (fun k n14 n15 n16 n23 n24 n35 => ((hGq12 k n23 n24 n35)).trans ((hGq1 k n14 n15 n16))), (fun k n152 n153 n158 n159 n160 n161 n162 n163 n164 n166 => ((hFq12 k n152 n158 n159 n166)).trans (((hFq9 k n160 n161 n162 n163 n164)).trans ((hFq1 k n152 n153)))), ⟨trivial, trivial⟩⟩
set_option maxRecDepth 100000 in
set_option maxHeartbeats 8000000 in
theorem NM_308 {X : pm_X} {d : Nat} {wc : pm_W} {f : Nat → Int32} {A : Nat → List Int32} {x1 x2 x3 : Int32} (hc : wc.length = 147) (hI : MI f A) (gx1 : (610 ≤ x1.toInt ∧ x1.toInt ≤ 742 ∧ (x1.toInt - 610) % 132 = 0)) : pmE pg X pg_tyl pg_cl (d + 5) 308 0 (pm_ent (pm_max pg 308) [.ref 147, .int x1, .int x2, .int x3]) [] (md wc f A) (fun q => ∃ (f' : Nat → Int32) (A' : Nat → List Int32) (r : Int32), q = (some (.int r), md wc f' A', 0, 0) ∧ MI f' A' ∧ (∀ k : Nat, k ≠ 31 → k ≠ 32 → f' k = f k) ∧ (∀ k : Nat, k ≠ 160 → k ≠ 161 → k ≠ 162 → k ≠ 163 → k ≠ 164 → A' k = A k) ∧ ((True ∧ True))) := by
  show pmE pg X pg_tyl pg_cl (d + 5) 308 0 [.ref 147, .int x1, .int x2, .int x3, pm_dead] [] (md wc f A) _
  refine pe_aload_n (j := 0) (by decide +kernel) rfl ?_
  refine pe_iload_n (j := 2) (by decide +kernel) rfl ?_
  refine mz_put31 (jj := 65) (by decide +kernel) (by decide +kernel) hc hI (fun f1 ef1 hIf1 => ?_)
  refine pe_aload_n (j := 0) (by decide +kernel) rfl ?_
  refine pe_iload_n (j := 3) (by decide +kernel) rfl ?_
  refine mz_put32 (jj := 69) (by decide +kernel) (by decide +kernel) hc hIf1 (fun f2 ef2 hIf2 => ?_)
  refine pe_aload_n (j := 0) (by decide +kernel) rfl ?_
  refine pe_iload_n (j := 1) (by decide +kernel) rfl ?_
  refine pe_aload_n (j := 0) (by decide +kernel) rfl ?_
  refine pe_iload_n (j := 1) (by decide +kernel) rfl ?_
  refine pe_iconstv (n := 0) (v := 0) (by decide +kernel) (by decide +kernel) ?_
  refine pe_iconstv (n := (-1)) (v := (-1)) (by decide +kernel) (by decide +kernel) ?_
  refine pz_callV (j := 346) (mj := 287) (by decide +kernel) (cll_V (args := [.int (-1), .int 0, .int x1]) (n := 3) (by decide +kernel) rfl rfl (md_o hc) (by decide +kernel) (Nat.le_of_ble_eq_true rfl) (Nat.le_of_ble_eq_true rfl)) (NM_287 hc hIf2 (by omega)) (fun q3a q3b q3c q3d hqq3 => ?_)
  obtain ⟨A4, rq3, eq3, hIq3, hFq3, kq3⟩ := hqq3
  cases eq3
  refine ⟨rfl, rfl, ?_⟩
  show pmE pg X pg_tyl pg_cl (d + 5) 308 19 [.ref 147, .int x1, .int x2, .int x3, pm_dead] [.int rq3, .int x1, .ref 147] (md wc f2 A4) _
  refine pz_callV (j := 340) (mj := 288) (by decide +kernel) (cll_V (args := [.int rq3, .int x1]) (n := 2) (by decide +kernel) rfl rfl (md_o hc) (by decide +kernel) (Nat.le_of_ble_eq_true rfl) (Nat.le_of_ble_eq_true rfl)) (MM_288 hc hIq3 (by omega)) (fun q5a q5b q5c q5d hqq5 => ?_)
  obtain ⟨rq5, eq5, kq5⟩ := hqq5
  cases eq5
  refine ⟨rfl, rfl, ?_⟩
  show pmE pg X pg_tyl pg_cl (d + 5) 308 22 [.ref 147, .int x1, .int x2, .int x3, pm_dead] [.int rq5] (md wc f2 A4) _
  refine pe_istore (j := 4) (ls' := [.ref 147, .int x1, .int x2, .int x3, .int rq5]) (by decide +kernel) (Nat.le_of_ble_eq_true rfl) rfl ?_
  refine pe_aload_n (j := 0) (by decide +kernel) rfl ?_
  refine pe_iconstv (n := (-1)) (v := (-1)) (by decide +kernel) (by decide +kernel) ?_
  refine mz_put31 (jj := 65) (by decide +kernel) (by decide +kernel) hc hIq3 (fun f6 ef6 hIf6 => ?_)
  refine pe_aload_n (j := 0) (by decide +kernel) rfl ?_
  refine pe_iconstv (n := (-1)) (v := (-1)) (by decide +kernel) (by decide +kernel) ?_
  refine mz_put32 (jj := 69) (by decide +kernel) (by decide +kernel) hc hIf6 (fun f7 ef7 hIf7 => ?_)
  refine pe_iload (j := 4) (by decide +kernel) rfl ?_
  exact pe_iret (by decide +kernel) rfl rfl ⟨f7, A4, rq5, rfl, hIf7, (fun k n31 n32 => (upf_fr ef7 n32).trans ((upf_fr ef6 n31).trans ((upf_fr ef2 n32).trans (upf_fr ef1 n31)))), (fun k n160 n161 n162 n163 n164 => (hFq3 k n160 n161 n162 n163 n164)), ⟨trivial, trivial⟩⟩
end
