section
set_option maxRecDepth 100000 in
set_option maxHeartbeats 8000000 in
theorem NL_233_246 {X : pm_X} {d : Nat} {wc : pm_W} {Q : pm_R → Prop} {f : Nat → Int32} {A0 : Nat → List Int32} {x1 x2 x3 x4 x5 : Int32} {u7 : Value} (hc : wc.length = 147) (gx1 : (610 ≤ x1.toInt ∧ x1.toInt ≤ 742 ∧ (x1.toInt - 610) % 132 = 0)) (gx2 : (875 ≤ x2.toInt ∧ x2.toInt ≤ 1680)) (gx3 : (0 ≤ x3.toInt ∧ x3.toInt ≤ 6)) (gx4 : (1 ≤ x4.toInt ∧ x4.toInt ≤ 1)) (gx5 : (0 ≤ x5.toInt ∧ x5.toInt ≤ 290)) (hpk0 : RP (A0 153) (10 * ((f 14).toInt - 1)) x3.toInt (fr (A0 148) x1.toInt)) (hpk1 : fr (A0 153) (10 * ((f 14).toInt - 1)) = x3.toInt) (hpk2 : N0 (A0 152)) (hpk3 : 0 ≤ fr (A0 148) (x2.toInt + 1) ∧ fr (A0 148) (x2.toInt + 1) ≤ 99) (k_302_0 : ∀ (A' : Nat → List Int32) (y6 : Int32), MI f A' → (∀ k : Nat, k ≠ 152 → A' k = A0 k) → (0 ≤ y6.toInt ∧ y6.toInt ≤ 6) → x3.toInt ≤ y6.toInt → ((-1) * (f 14).toInt + 1) ≤ 0 → DI (A' 152) (A0 152) (fr (A0 148) x1.toInt) (99 * y6.toInt) → pmE pg X pg_tyl pg_cl (d + 2) 233 302 [.ref 147, .int x1, .int x2, .int x3, .int x4, .int x5, .int y6, u7] [] (md wc f A') Q) : ∀ (m : Nat) (A : Nat → List Int32) (x6 : Int32), MI f A → (∀ k : Nat, k ≠ 152 → A k = A0 k) → (0 ≤ x6.toInt ∧ x6.toInt ≤ 6) → ((-1) * (f 14).toInt + 1) ≤ 0 → DI (A 152) (A0 152) (fr (A0 148) x1.toInt) (99 * x6.toInt) → 6 - x6.toInt < (m : Int) → pmE pg X pg_tyl pg_cl (d + 2) 233 246 [.ref 147, .int x1, .int x2, .int x3, .int x4, .int x5, .int x6, u7] [] (md wc f A) Q := by
  intro m
  induction m with
  | zero =>
    intro A x6 hI hF gx6 hxi0 hpi0 hm
    exfalso
    have l0 := zi_lo x6
    have u0 := zi_hi x6
    omega
  | succ m ih =>
    intro A x6 hI hF gx6 hxi0 hpi0 hm
    have hr_f_14 := mf_14 hI
    refine pe_iload (j := 6) (by decide +kernel) rfl ?_
    refine pe_iload_n (j := 3) (by decide +kernel) rfl ?_
    refine pz_icmp_ge (off := 53) (t := 302) (by decide +kernel) (by decide) rfl rfl rfl (fun h1 => ?_) (fun h1 => ?_)
    · skip
      exact k_302_0 A x6 hI (fun k n152 => (hF k n152)) (by omega) (by omega) (by omega) hpi0
    · skip
      refine pe_aload_n (j := 0) (by decide +kernel) rfl ?_
      refine pe_get (j := 23) (ci := 12) (n := 12) (by decide +kernel) (by decide +kernel) (md_o hc) rfl ?_
      refine pe_bipushv (n := 9) (v := 9) (by decide +kernel) (by decide +kernel) ?_
      refine pe_aload_n (j := 0) (by decide +kernel) rfl ?_
      refine pe_aload_n (j := 0) (by decide +kernel) rfl ?_
      refine pe_get (j := 175) (ci := 12) (n := 14) (by decide +kernel) (by decide +kernel) (md_o hc) rfl ?_
      refine pe_iconstv (n := 1) (v := 1) (by decide +kernel) (by decide +kernel) ?_
      refine pz_sub (by decide +kernel) rfl kz_1 (by omega) (by omega) (fun z2 hz2 => ?_)
      refine pe_iload (j := 6) (by decide +kernel) rfl ?_
      refine pi_V (j := 184) (mj := 234) (by decide +kernel) (cll_V (args := [.int x6, .int z2]) (n := 2) (by decide +kernel) rfl rfl (md_o hc) (by decide +kernel) (Nat.le_of_ble_eq_true rfl) (Nat.le_of_ble_eq_true rfl)) ?_
      show pmE pg X pg_tyl pg_cl (d + 1) 234 0 [.ref 147, .int z2, .int x6] [] (md wc f A) _
      refine pe_aload_n (j := 0) (by decide +kernel) rfl ?_
      refine pe_get (j := 26) (ci := 12) (n := 13) (by decide +kernel) (by decide +kernel) (md_o hc) rfl ?_
      refine pe_bipushv (n := 10) (v := 10) (by decide +kernel) (by decide +kernel) ?_
      refine pe_iload_n (j := 1) (by decide +kernel) rfl ?_
      refine pz_mul (by decide +kernel) kz_10 hz2 (by omega) (by omega) (fun z3 hz3 => ?_)
      refine pe_iconstv (n := 4) (v := 4) (by decide +kernel) (by decide +kernel) ?_
      refine pz_add (by decide +kernel) hz3 kz_4 (by omega) (by omega) (fun z4 hz4 => ?_)
      clear hz3
      refine pe_iload_n (j := 2) (by decide +kernel) rfl ?_
      refine pz_add (by decide +kernel) hz4 rfl (by omega) (by omega) (fun z5 hz5 => ?_)
      clear hz4
      refine pz_iald (by decide +kernel) (md_a153 hc) (mlen_153 hI) hz5 (by omega) (by omega) (fun v6 ev6 => ?_)
      have rv6 : 0 ≤ v6.toInt ∧ v6.toInt ≤ 8 := mp_w (mp_153 hI ev6) (by omega)
      rw [show A 153 = A0 153 from (hF 153 (by decide))] at ev6
      clear hz5
      have hw7 := hpk0 (x6.toInt) (by omega) (by omega)
      rw [show 10 * ((f 14).toInt - 1) + 4 + x6.toInt = (((10 * ((f 14).toInt - 1)) + 4) + x6.toInt) by omega, (show fr (A0 153) ((((10 * ((f 14).toInt - 1)) + 4) + x6.toInt)) = v6.toInt from congrArg Int32.toInt ev6.symm)] at hw7
      refine pe_iret (by decide +kernel) rfl rfl ⟨rfl, rfl, ?_⟩
      show pmE pg X pg_tyl pg_cl (d + 2) 233 270 [.ref 147, .int x1, .int x2, .int x3, .int x4, .int x5, .int x6, u7] [.int v6, .int 9, .ref 152] (md wc f A) _
      refine pz_mul (by decide +kernel) kz_9 rfl (by omega) (by omega) (fun z8 hz8 => ?_)
      refine pe_aload_n (j := 0) (by decide +kernel) rfl ?_
      refine pe_aload_n (j := 0) (by decide +kernel) rfl ?_
      refine pe_get (j := 175) (ci := 12) (n := 14) (by decide +kernel) (by decide +kernel) (md_o hc) rfl ?_
      refine pe_iconstv (n := 1) (v := 1) (by decide +kernel) (by decide +kernel) ?_
      refine pz_sub (by decide +kernel) rfl kz_1 (by omega) (by omega) (fun z9 hz9 => ?_)
      refine pe_iload (j := 6) (by decide +kernel) rfl ?_
      refine pi_V (j := 187) (mj := 235) (by decide +kernel) (cll_V (args := [.int x6, .int z9]) (n := 2) (by decide +kernel) rfl rfl (md_o hc) (by decide +kernel) (Nat.le_of_ble_eq_true rfl) (Nat.le_of_ble_eq_true rfl)) ?_
      show pmE pg X pg_tyl pg_cl (d + 1) 235 0 [.ref 147, .int z9, .int x6] [] (md wc f A) _
      refine pe_aload_n (j := 0) (by decide +kernel) rfl ?_
      refine pe_iload_n (j := 1) (by decide +kernel) rfl ?_
      refine pe_iload_n (j := 2) (by decide +kernel) rfl ?_
      refine pe_iconstv (n := 1) (v := 1) (by decide +kernel) (by decide +kernel) ?_
      refine pz_add (by decide +kernel) rfl kz_1 (by omega) (by omega) (fun z10 hz10 => ?_)
      refine pe_aload_n (j := 0) (by decide +kernel) rfl ?_
      refine pe_get (j := 26) (ci := 12) (n := 13) (by decide +kernel) (by decide +kernel) (md_o hc) rfl ?_
      refine pe_bipushv (n := 10) (v := 10) (by decide +kernel) (by decide +kernel) ?_
      refine pe_iload_n (j := 1) (by decide +kernel) rfl ?_
      refine pz_mul (by decide +kernel) kz_10 hz9 (by omega) (by omega) (fun z11 hz11 => ?_)
      refine pz_iald (by decide +kernel) (md_a153 hc) (mlen_153 hI) hz11 (by omega) (by omega) (fun v12 ev12 => ?_)
      have rv12 : 0 ≤ v12.toInt ∧ v12.toInt ≤ 6 := mp_m (mp_153 hI ev12) (by omega)
      rw [show A 153 = A0 153 from (hF 153 (by decide))] at ev12
      clear hz11
      have hmn13 := hpk1
      rw [show 10 * ((f 14).toInt - 1) = (10 * ((f 14).toInt - 1)) by omega, (show fr (A0 153) ((10 * ((f 14).toInt - 1))) = v12.toInt from congrArg Int32.toInt ev12.symm)] at hmn13
      refine pz_icmp_ne (off := 7) (t := 21) (by decide +kernel) (by decide) rfl hz10 rfl (fun h14 => ?_) (fun h14 => ?_)
      · skip
        clear hz10
        refine pe_iload_n (j := 2) (by decide +kernel) rfl ?_
        refine pe_iconstv (n := 1) (v := 1) (by decide +kernel) (by decide +kernel) ?_
        refine pz_add (by decide +kernel) rfl kz_1 (by omega) (by omega) (fun z15 hz15 => ?_)
        refine pi_V (j := 184) (mj := 234) (by decide +kernel) (cll_V (args := [.int z15, .int z9]) (n := 2) (by decide +kernel) rfl rfl (md_o hc) (by decide +kernel) (Nat.le_of_ble_eq_true rfl) (Nat.le_of_ble_eq_true rfl)) ?_
        show pmE pg X pg_tyl pg_cl (d) 234 0 [.ref 147, .int z9, .int z15] [] (md wc f A) _
        refine pe_aload_n (j := 0) (by decide +kernel) rfl ?_
        refine pe_get (j := 26) (ci := 12) (n := 13) (by decide +kernel) (by decide +kernel) (md_o hc) rfl ?_
        refine pe_bipushv (n := 10) (v := 10) (by decide +kernel) (by decide +kernel) ?_
        refine pe_iload_n (j := 1) (by decide +kernel) rfl ?_
        refine pz_mul (by decide +kernel) kz_10 hz9 (by omega) (by omega) (fun z16 hz16 => ?_)
        refine pe_iconstv (n := 4) (v := 4) (by decide +kernel) (by decide +kernel) ?_
        refine pz_add (by decide +kernel) hz16 kz_4 (by omega) (by omega) (fun z17 hz17 => ?_)
        clear hz16
        refine pe_iload_n (j := 2) (by decide +kernel) rfl ?_
        refine pz_add (by decide +kernel) hz17 hz15 (by omega) (by omega) (fun z18 hz18 => ?_)
        clear hz17
        refine pz_iald (by decide +kernel) (md_a153 hc) (mlen_153 hI) hz18 (by omega) (by omega) (fun v19 ev19 => ?_)
        have rv19 : 0 ≤ v19.toInt ∧ v19.toInt ≤ 8 := mp_w (mp_153 hI ev19) (by omega)
        rw [show A 153 = A0 153 from (hF 153 (by decide))] at ev19
        clear hz18
        have hw20 := hpk0 ((x6.toInt + 1)) (by omega) (by omega)
        rw [show 10 * ((f 14).toInt - 1) + 4 + (x6.toInt + 1) = (((10 * ((f 14).toInt - 1)) + 4) + (x6.toInt + 1)) by omega, (show fr (A0 153) ((((10 * ((f 14).toInt - 1)) + 4) + (x6.toInt + 1))) = v19.toInt from congrArg Int32.toInt ev19.symm)] at hw20
        refine pe_iret (by decide +kernel) rfl rfl ⟨rfl, rfl, ?_⟩
        show pmE pg X pg_tyl pg_cl (d + 1) 235 27 [.ref 147, .int z9, .int x6] [.int v19] (md wc f A) _
        refine pe_iret (by decide +kernel) rfl rfl ⟨rfl, rfl, ?_⟩
        show pmE pg X pg_tyl pg_cl (d + 2) 233 283 [.ref 147, .int x1, .int x2, .int x3, .int x4, .int x5, .int x6, u7] [.int v19, .int z8, .ref 152] (md wc f A) _
        refine pz_add (by decide +kernel) hz8 rfl (by omega) (by omega) (fun z21 hz21 => ?_)
        clear hz8
        refine pe_dup2 (by decide +kernel) ⟨rfl, rfl⟩ ?_
        refine pz_iald (by decide +kernel) (md_a152 hc) (mlen_152 hI) hz21 (by omega) (by omega) (fun v22 ev22 => ?_)
        have hb23 := DI_le hpi0 (((9 * v6.toInt) + v19.toInt)) (by omega) (by omega)
        have hb24 := hpk2 (((9 * v6.toInt) + v19.toInt)) (by omega) (by omega)
        rw [(show fr (A 152) (((9 * v6.toInt) + v19.toInt)) = v22.toInt from congrArg Int32.toInt ev22.symm)] at hb23
        refine pe_aload_n (j := 0) (by decide +kernel) rfl ?_
        refine pe_get (j := 7) (ci := 12) (n := 0) (by decide +kernel) (by decide +kernel) (md_o hc) rfl ?_
        refine pe_iload_n (j := 2) (by decide +kernel) rfl ?_
        refine pe_iconstv (n := 1) (v := 1) (by decide +kernel) (by decide +kernel) ?_
        refine pz_add (by decide +kernel) rfl kz_1 (by omega) (by omega) (fun z25 hz25 => ?_)
        refine pz_iald (by decide +kernel) (md_a148 hc) (mlen_148 hI) hz25 (by omega) (by omega) (fun v26 ev26 => ?_)
        rw [show A 148 = A0 148 from (hF 148 (by decide))] at ev26
        clear hz25
        have hb27 := hpk3
        rw [show (x2.toInt + 1) = (x2.toInt + 1) from rfl, (show fr (A0 148) ((x2.toInt + 1)) = v26.toInt from congrArg Int32.toInt ev26.symm)] at hb27
        refine pz_add (by decide +kernel) rfl rfl (by omega) (by omega) (fun z28 hz28 => ?_)
        refine mz_st152 (by decide +kernel) hc hI hz21 (by omega) (by omega) (fun A29 eA29 hIA29 => ?_)
        refine pz_iinc (j := 6) (n := 1) (by decide +kernel) rfl rfl (by decide +kernel) (by omega) (by omega) (fun z30 hz30 => ?_)
        show pmE pg X pg_tyl pg_cl (d + 2) 233 299 [.ref 147, .int x1, .int x2, .int x3, .int x4, .int x5, .int z30, u7] [] (md wc f A29) _
        refine pe_goto (off := (-53)) (t := 246) (by decide +kernel) (by decide) rfl ?_
        exact ih A29 z30 hIA29 (fun k n152 => (upa_fr eA29 n152).trans ((hF k n152))) (by omega) (by omega) (by rw [hz30, show 99 * (x6.toInt + 1) = 99 * x6.toInt + 99 by omega, upa_at eA29]; exact DI_set (i := ((9 * v6.toInt) + v19.toInt)) (n := 99) hpi0 (by omega) (by omega) (mlen_152 hI) (by omega) (by rw [(show fr (A 152) (((9 * v6.toInt) + v19.toInt)) = v22.toInt from congrArg Int32.toInt ev22.symm)]; omega) (by decide) (fun h => absurd h (by omega))) (by omega)
      · skip
        clear hz10
        refine pe_iconstv (n := 0) (v := 0) (by decide +kernel) (by decide +kernel) ?_
        refine pe_goto (off := 6) (t := 24) (by decide +kernel) (by decide) rfl ?_
        refine pi_V (j := 184) (mj := 234) (by decide +kernel) (cll_V (args := [.int 0, .int z9]) (n := 2) (by decide +kernel) rfl rfl (md_o hc) (by decide +kernel) (Nat.le_of_ble_eq_true rfl) (Nat.le_of_ble_eq_true rfl)) ?_
        show pmE pg X pg_tyl pg_cl (d) 234 0 [.ref 147, .int z9, .int 0] [] (md wc f A) _
        refine pe_aload_n (j := 0) (by decide +kernel) rfl ?_
        refine pe_get (j := 26) (ci := 12) (n := 13) (by decide +kernel) (by decide +kernel) (md_o hc) rfl ?_
        refine pe_bipushv (n := 10) (v := 10) (by decide +kernel) (by decide +kernel) ?_
        refine pe_iload_n (j := 1) (by decide +kernel) rfl ?_
        refine pz_mul (by decide +kernel) kz_10 hz9 (by omega) (by omega) (fun z31 hz31 => ?_)
        refine pe_iconstv (n := 4) (v := 4) (by decide +kernel) (by decide +kernel) ?_
        refine pz_add (by decide +kernel) hz31 kz_4 (by omega) (by omega) (fun z32 hz32 => ?_)
        clear hz31
        refine pe_iload_n (j := 2) (by decide +kernel) rfl ?_
        refine pz_add (by decide +kernel) hz32 kz_0 (by omega) (by omega) (fun z33 hz33 => ?_)
        clear hz32
        refine pz_iald (by decide +kernel) (md_a153 hc) (mlen_153 hI) hz33 (by omega) (by omega) (fun v34 ev34 => ?_)
        have rv34 : 0 ≤ v34.toInt ∧ v34.toInt ≤ 8 := mp_w (mp_153 hI ev34) (by omega)
        rw [show A 153 = A0 153 from (hF 153 (by decide))] at ev34
        clear hz33
        have hl35 := kz_0
        have hw36 := hpk0 (0) (by omega) (by omega)
        rw [show 10 * ((f 14).toInt - 1) + 4 + 0 = (((10 * ((f 14).toInt - 1)) + 4) + 0) by omega, (show fr (A0 153) ((((10 * ((f 14).toInt - 1)) + 4) + 0)) = v34.toInt from congrArg Int32.toInt ev34.symm)] at hw36
        refine pe_iret (by decide +kernel) rfl rfl ⟨rfl, rfl, ?_⟩
        show pmE pg X pg_tyl pg_cl (d + 1) 235 27 [.ref 147, .int z9, .int x6] [.int v34] (md wc f A) _
        refine pe_iret (by decide +kernel) rfl rfl ⟨rfl, rfl, ?_⟩
        show pmE pg X pg_tyl pg_cl (d + 2) 233 283 [.ref 147, .int x1, .int x2, .int x3, .int x4, .int x5, .int x6, u7] [.int v34, .int z8, .ref 152] (md wc f A) _
        refine pz_add (by decide +kernel) hz8 rfl (by omega) (by omega) (fun z37 hz37 => ?_)
        clear hz8
        refine pe_dup2 (by decide +kernel) ⟨rfl, rfl⟩ ?_
        refine pz_iald (by decide +kernel) (md_a152 hc) (mlen_152 hI) hz37 (by omega) (by omega) (fun v38 ev38 => ?_)
        have hb39 := DI_le hpi0 (((9 * v6.toInt) + v34.toInt)) (by omega) (by omega)
        have hb40 := hpk2 (((9 * v6.toInt) + v34.toInt)) (by omega) (by omega)
        rw [(show fr (A 152) (((9 * v6.toInt) + v34.toInt)) = v38.toInt from congrArg Int32.toInt ev38.symm)] at hb39
        refine pe_aload_n (j := 0) (by decide +kernel) rfl ?_
        refine pe_get (j := 7) (ci := 12) (n := 0) (by decide +kernel) (by decide +kernel) (md_o hc) rfl ?_
        refine pe_iload_n (j := 2) (by decide +kernel) rfl ?_
        refine pe_iconstv (n := 1) (v := 1) (by decide +kernel) (by decide +kernel) ?_
        refine pz_add (by decide +kernel) rfl kz_1 (by omega) (by omega) (fun z41 hz41 => ?_)
        refine pz_iald (by decide +kernel) (md_a148 hc) (mlen_148 hI) hz41 (by omega) (by omega) (fun v42 ev42 => ?_)
        rw [show A 148 = A0 148 from (hF 148 (by decide))] at ev42
        clear hz41
        have hb43 := hpk3
        rw [show (x2.toInt + 1) = (x2.toInt + 1) from rfl, (show fr (A0 148) ((x2.toInt + 1)) = v42.toInt from congrArg Int32.toInt ev42.symm)] at hb43
        refine pz_add (by decide +kernel) rfl rfl (by omega) (by omega) (fun z44 hz44 => ?_)
        refine mz_st152 (by decide +kernel) hc hI hz37 (by omega) (by omega) (fun A45 eA45 hIA45 => ?_)
        refine pz_iinc (j := 6) (n := 1) (by decide +kernel) rfl rfl (by decide +kernel) (by omega) (by omega) (fun z46 hz46 => ?_)
        show pmE pg X pg_tyl pg_cl (d + 2) 233 299 [.ref 147, .int x1, .int x2, .int x3, .int x4, .int x5, .int z46, u7] [] (md wc f A45) _
        refine pe_goto (off := (-53)) (t := 246) (by decide +kernel) (by decide) rfl ?_
        exact ih A45 z46 hIA45 (fun k n152 => (upa_fr eA45 n152).trans ((hF k n152))) (by omega) (by omega) (by rw [hz46, show 99 * (x6.toInt + 1) = 99 * x6.toInt + 99 by omega, upa_at eA45]; exact DI_set (i := ((9 * v6.toInt) + v34.toInt)) (n := 99) hpi0 (by omega) (by omega) (mlen_152 hI) (by omega) (by rw [(show fr (A 152) (((9 * v6.toInt) + v34.toInt)) = v38.toInt from congrArg Int32.toInt ev38.symm)]; omega) (by decide) (fun h => absurd h (by omega))) (by omega)
set_option maxRecDepth 100000 in
set_option maxHeartbeats 8000000 in
theorem NL_233_198 {X : pm_X} {d : Nat} {wc : pm_W} {Q : pm_R → Prop} {f : Nat → Int32} {A0 : Nat → List Int32} {x1 x2 x3 x4 x5 : Int32} {u7 : Value} (hc : wc.length = 147) (gx1 : (610 ≤ x1.toInt ∧ x1.toInt ≤ 742 ∧ (x1.toInt - 610) % 132 = 0)) (gx2 : (875 ≤ x2.toInt ∧ x2.toInt ≤ 1680)) (gx3 : (0 ≤ x3.toInt ∧ x3.toInt ≤ 6)) (gx4 : (1 ≤ x4.toInt ∧ x4.toInt ≤ 1)) (gx5 : (0 ≤ x5.toInt ∧ x5.toInt ≤ 290)) (he5 : x5.toInt = (10 * (f 14).toInt)) (hpk0 : PA (A0 148) x2.toInt x3.toInt (fr (A0 148) x1.toInt)) (hpk1 : 0 ≤ (fr (A0 148) x1.toInt) ∧ (fr (A0 148) x1.toInt) ≤ 9) (k_233_0 : ∀ (A' : Nat → List Int32) (y6 : Int32), MI f A' → (∀ k : Nat, k ≠ 153 → A' k = A0 k) → (0 ≤ y6.toInt ∧ y6.toInt ≤ 6) → x3.toInt ≤ y6.toInt → RP (A' 153) (10 * (f 14).toInt) y6.toInt (fr (A0 148) x1.toInt) → RQ (A' 153) (A0 153) (10 * (f 14).toInt + 4) → pmE pg X pg_tyl pg_cl (d + 2) 233 233 [.ref 147, .int x1, .int x2, .int x3, .int x4, .int x5, .int y6, u7] [] (md wc f A') Q) : ∀ (m : Nat) (A : Nat → List Int32) (x6 : Int32), MI f A → (∀ k : Nat, k ≠ 153 → A k = A0 k) → (0 ≤ x6.toInt ∧ x6.toInt ≤ 6) → RP (A 153) (10 * (f 14).toInt) x6.toInt (fr (A0 148) x1.toInt) → RQ (A 153) (A0 153) (10 * (f 14).toInt + 4) → 6 - x6.toInt < (m : Int) → pmE pg X pg_tyl pg_cl (d + 2) 233 198 [.ref 147, .int x1, .int x2, .int x3, .int x4, .int x5, .int x6, u7] [] (md wc f A) Q := by
  intro m
  induction m with
  | zero =>
    intro A x6 hI hF gx6 hpi0 hpi1 hm
    exfalso
    have l0 := zi_lo x6
    have u0 := zi_hi x6
    omega
  | succ m ih =>
    intro A x6 hI hF gx6 hpi0 hpi1 hm
    have hr_f_14 := mf_14 hI
    refine pe_iload (j := 6) (by decide +kernel) rfl ?_
    refine pe_iload_n (j := 3) (by decide +kernel) rfl ?_
    refine pz_icmp_ge (off := 32) (t := 233) (by decide +kernel) (by decide) rfl rfl rfl (fun h1 => ?_) (fun h1 => ?_)
    · skip
      exact k_233_0 A x6 hI (fun k n153 => (hF k n153)) (by omega) (by omega) hpi0 hpi1
    · skip
      refine pe_aload_n (j := 0) (by decide +kernel) rfl ?_
      refine pe_get (j := 26) (ci := 12) (n := 13) (by decide +kernel) (by decide +kernel) (md_o hc) rfl ?_
      refine pe_iload (j := 5) (by decide +kernel) rfl ?_
      refine pe_iconstv (n := 4) (v := 4) (by decide +kernel) (by decide +kernel) ?_
      refine pz_add (by decide +kernel) he5 kz_4 (by omega) (by omega) (fun z2 hz2 => ?_)
      refine pe_iload (j := 6) (by decide +kernel) rfl ?_
      refine pz_add (by decide +kernel) hz2 rfl (by omega) (by omega) (fun z3 hz3 => ?_)
      clear hz2
      refine pe_aload_n (j := 0) (by decide +kernel) rfl ?_
      refine pe_get (j := 7) (ci := 12) (n := 0) (by decide +kernel) (by decide +kernel) (md_o hc) rfl ?_
      refine pe_iload_n (j := 2) (by decide +kernel) rfl ?_
      refine pe_iconstv (n := 3) (v := 3) (by decide +kernel) (by decide +kernel) ?_
      refine pz_add (by decide +kernel) rfl kz_3 (by omega) (by omega) (fun z4 hz4 => ?_)
      refine pe_iload (j := 6) (by decide +kernel) rfl ?_
      refine pz_add (by decide +kernel) hz4 rfl (by omega) (by omega) (fun z5 hz5 => ?_)
      clear hz4
      refine pz_iald (by decide +kernel) (md_a148 hc) (mlen_148 hI) hz5 (by omega) (by omega) (fun v6 ev6 => ?_)
      rw [show A 148 = A0 148 from (hF 148 (by decide))] at ev6
      clear hz5
      have hb7 := hpk0 x6.toInt (by omega) (by omega)
      rw [(show fr (A0 148) (((x2.toInt + 3) + x6.toInt)) = v6.toInt from congrArg Int32.toInt ev6.symm)] at hb7
      have hpe := hpk1
      refine mz_st153 (by decide +kernel) hc hI hz3 (by omega) (by omega) (by simp only [MP_rings]; omega) (fun A8 eA8 hIA8 => ?_)
      refine pz_iinc (j := 6) (n := 1) (by decide +kernel) rfl rfl (by decide +kernel) (by omega) (by omega) (fun z9 hz9 => ?_)
      show pmE pg X pg_tyl pg_cl (d + 2) 233 230 [.ref 147, .int x1, .int x2, .int x3, .int x4, .int x5, .int z9, u7] [] (md wc f A8) _
      refine pe_goto (off := (-32)) (t := 198) (by decide +kernel) (by decide) rfl ?_
      exact ih A8 z9 hIA8 (fun k n153 => (upa_fr eA8 n153).trans ((hF k n153))) (by omega) (by rw [hz9, upa_at eA8]; exact RP_step hpi0 (by omega) (by omega) (by rw [mlen_153 hI]; omega) (by omega) (by omega)) (by rw [upa_at eA8]; exact RQ_set hpi1 (by omega) (by omega)) (by omega)
set_option maxRecDepth 100000 in
set_option maxHeartbeats 8000000 in
theorem NL_233_33 {X : pm_X} {d : Nat} {wc : pm_W} {Q : pm_R → Prop} {f : Nat → Int32} {A : Nat → List Int32} {x1 x2 x3 : Int32} (hc : wc.length = 147) (hI : MI f A) (gx1 : (610 ≤ x1.toInt ∧ x1.toInt ≤ 742 ∧ (x1.toInt - 610) % 132 = 0)) (gx2 : (875 ≤ x2.toInt ∧ x2.toInt ≤ 1680)) (gx3 : (0 ≤ x3.toInt ∧ x3.toInt ≤ 6)) (k_127_0 : ∀ (y4 : Int32) (y5 : Int32) (v6 : Value) (v7 : Value), (0 ≤ y4.toInt ∧ y4.toInt ≤ 1) → (0 ≤ y5.toInt ∧ y5.toInt ≤ 6) → x3.toInt ≤ y5.toInt → (y4.toInt = 1 → PA (A 148) x2.toInt y5.toInt (fr (A 148) x1.toInt)) → pmE pg X pg_tyl pg_cl (d + 2) 233 127 [.ref 147, .int x1, .int x2, .int x3, .int y4, .int y5, v6, v7] [] (md wc f A) Q) (k_127_1 : ∀ (y4 : Int32) (y5 : Int32) (v6 : Value) (v7 : Value), (0 ≤ y4.toInt ∧ y4.toInt ≤ 0) → (0 ≤ y5.toInt ∧ y5.toInt ≤ 5) → y5.toInt ≤ x3.toInt → (y4.toInt = 1 → PA (A 148) x2.toInt y5.toInt (fr (A 148) x1.toInt)) → pmE pg X pg_tyl pg_cl (d + 2) 233 127 [.ref 147, .int x1, .int x2, .int x3, .int y4, .int y5, v6, v7] [] (md wc f A) Q) : ∀ (m : Nat) (x4 : Int32) (x5 : Int32) (u6 : Value) (u7 : Value), (0 ≤ x4.toInt ∧ x4.toInt ≤ 1) → (0 ≤ x5.toInt ∧ x5.toInt ≤ 6) → (x4.toInt = 1 → PA (A 148) x2.toInt x5.toInt (fr (A 148) x1.toInt)) → 6 - x5.toInt < (m : Int) → pmE pg X pg_tyl pg_cl (d + 2) 233 33 [.ref 147, .int x1, .int x2, .int x3, .int x4, .int x5, u6, u7] [] (md wc f A) Q := by
  intro m
  induction m with
  | zero =>
    intro x4 x5 u6 u7 gx4 gx5 hpi0 hm
    exfalso
    have l0 := zi_lo x5
    have u0 := zi_hi x5
    omega
  | succ m ih =>
    intro x4 x5 u6 u7 gx4 gx5 hpi0 hm
    refine pe_iload (j := 5) (by decide +kernel) rfl ?_
    refine pe_iload_n (j := 3) (by decide +kernel) rfl ?_
    refine pz_icmp_ge (off := 91) (t := 127) (by decide +kernel) (by decide) rfl rfl rfl (fun h1 => ?_) (fun h1 => ?_)
    · skip
      exact k_127_0 x4 x5 (u6) (u7) (by omega) (by omega) (by omega) hpi0
    · skip
      refine pe_iload (j := 4) (by decide +kernel) rfl ?_
      refine pz_if_eq (off := 86) (t := 127) (by decide +kernel) (by decide) rfl rfl (fun h2 => ?_) (fun h2 => ?_)
      · skip
        exact k_127_1 x4 x5 (u6) (u7) (by omega) (by omega) (by omega) hpi0
      · skip
        refine pe_aload_n (j := 0) (by decide +kernel) rfl ?_
        refine pe_get (j := 7) (ci := 12) (n := 0) (by decide +kernel) (by decide +kernel) (md_o hc) rfl ?_
        refine pe_iload_n (j := 2) (by decide +kernel) rfl ?_
        refine pe_iconstv (n := 3) (v := 3) (by decide +kernel) (by decide +kernel) ?_
        refine pz_add (by decide +kernel) rfl kz_3 (by omega) (by omega) (fun z3 hz3 => ?_)
        refine pe_iload (j := 5) (by decide +kernel) rfl ?_
        refine pz_add (by decide +kernel) hz3 rfl (by omega) (by omega) (fun z4 hz4 => ?_)
        clear hz3
        refine pz_iald (by decide +kernel) (md_a148 hc) (mlen_148 hI) hz4 (by omega) (by omega) (fun v5 ev5 => ?_)
        clear hz4
        refine pe_istore (j := 6) (ls' := [.ref 147, .int x1, .int x2, .int x3, .int x4, .int x5, .int v5, u7]) (by decide +kernel) (Nat.le_of_ble_eq_true rfl) rfl ?_
        refine pe_aload_n (j := 0) (by decide +kernel) rfl ?_
        refine pe_get (j := 7) (ci := 12) (n := 0) (by decide +kernel) (by decide +kernel) (md_o hc) rfl ?_
        refine pe_iload_n (j := 2) (by decide +kernel) rfl ?_
        refine pe_iconstv (n := 3) (v := 3) (by decide +kernel) (by decide +kernel) ?_
        refine pz_add (by decide +kernel) rfl kz_3 (by omega) (by omega) (fun z6 hz6 => ?_)
        refine pe_iload (j := 5) (by decide +kernel) rfl ?_
        refine pe_iconstv (n := 1) (v := 1) (by decide +kernel) (by decide +kernel) ?_
        refine pz_add (by decide +kernel) rfl kz_1 (by omega) (by omega) (fun z7 hz7 => ?_)
        refine pe_iload_n (j := 3) (by decide +kernel) rfl ?_
        refine pz_rem (by decide +kernel) hz7 rfl (by omega) (by omega) (fun z8 hz8 gz8 kz8 => ?_)
        clear hz8
        refine pz_add (by decide +kernel) hz6 rfl (by omega) (by omega) (fun z9 hz9 => ?_)
        clear hz6
        refine pz_iald (by decide +kernel) (md_a148 hc) (mlen_148 hI) hz9 (by omega) (by omega) (fun v10 ev10 => ?_)
        clear hz9
        refine pe_istore (j := 7) (ls' := [.ref 147, .int x1, .int x2, .int x3, .int x4, .int x5, .int v5, .int v10]) (by decide +kernel) (Nat.le_of_ble_eq_true rfl) rfl ?_
        refine pe_aload_n (j := 0) (by decide +kernel) rfl ?_
        refine pe_iload_n (j := 1) (by decide +kernel) rfl ?_
        refine pe_iload (j := 6) (by decide +kernel) rfl ?_
        refine pi_V (j := 166) (mj := 221) (by decide +kernel) (cll_V (args := [.int v5, .int x1]) (n := 2) (by decide +kernel) rfl rfl (md_o hc) (by decide +kernel) (Nat.le_of_ble_eq_true rfl) (Nat.le_of_ble_eq_true rfl)) ?_
        show pmE pg X pg_tyl pg_cl (d + 1) 221 0 [.ref 147, .int x1, .int v5] [] (md wc f A) _
        refine pe_iload_n (j := 2) (by decide +kernel) rfl ?_
        refine pe_iconstv (n := 0) (v := 0) (by decide +kernel) (by decide +kernel) ?_
        refine pe_aload_n (j := 0) (by decide +kernel) rfl ?_
        refine pe_get (j := 7) (ci := 12) (n := 0) (by decide +kernel) (by decide +kernel) (md_o hc) rfl ?_
        refine pe_iload_n (j := 1) (by decide +kernel) rfl ?_
        refine pz_iald (by decide +kernel) (md_a148 hc) (mlen_148 hI) rfl (by omega) (by omega) (fun v11 ev11 => ?_)
        have rv11 : 0 ≤ v11.toInt ∧ v11.toInt ≤ 9 := MT_people (mt_148 hI ev11 (by omega)) (by omega)
        refine pe_iconstv (n := 1) (v := 1) (by decide +kernel) (by decide +kernel) ?_
        refine pz_sub (by decide +kernel) rfl kz_1 (by omega) (by omega) (fun z12 hz12 => ?_)
        refine pi_S (j := 119) (mj := 199) (by decide +kernel) (by decide +kernel) rfl ?_
        show pmE pg X pg_tyl pg_cl (d) 199 0 [.int v5, .int 0, .int z12] [] (md wc f A) _
        refine pe_iload_n (j := 0) (by decide +kernel) rfl ?_
        refine pe_iload_n (j := 1) (by decide +kernel) rfl ?_
        have lw14 := zi_lo v5
        have uw14 := zi_hi v5
        refine pz_icmp_lt (off := 12) (t := 14) (by decide +kernel) (by decide) rfl rfl kz_0 (fun h13 => ?_) (fun h13 => ?_)
        · skip
          refine pe_iconstv (n := 0) (v := 0) (by decide +kernel) (by decide +kernel) ?_
          refine pe_iret (by decide +kernel) rfl rfl ⟨rfl, rfl, ?_⟩
          show pmE pg X pg_tyl pg_cl (d + 1) 221 13 [.ref 147, .int x1, .int v5] [.int 0] (md wc f A) _
          refine pe_iret (by decide +kernel) rfl rfl ⟨rfl, rfl, ?_⟩
          show pmE pg X pg_tyl pg_cl (d + 2) 233 81 [.ref 147, .int x1, .int x2, .int x3, .int x4, .int x5, .int v5, .int v10] [.int 0] (md wc f A) _
          refine pz_if_eq (off := 37) (t := 118) (by decide +kernel) (by decide) rfl kz_0 (fun h15 => ?_) (fun h15 => by omega)
          refine pe_iconstv (n := 0) (v := 0) (by decide +kernel) (by decide +kernel) ?_
          refine pe_istore (j := 4) (ls' := [.ref 147, .int x1, .int x2, .int x3, .int 0, .int x5, .int v5, .int v10]) (by decide +kernel) (Nat.le_of_ble_eq_true rfl) rfl ?_
          refine pz_iinc (j := 5) (n := 1) (by decide +kernel) rfl rfl (by decide +kernel) (by omega) (by omega) (fun z16 hz16 => ?_)
          show pmE pg X pg_tyl pg_cl (d + 2) 233 124 [.ref 147, .int x1, .int x2, .int x3, .int 0, .int z16, .int v5, .int v10] [] (md wc f A) _
          refine pe_goto (off := (-91)) (t := 33) (by decide +kernel) (by decide) rfl ?_
          exact ih 0 z16 (.int v5) (.int v10) (by decide +kernel) (by omega) (fun h => absurd h (by decide +kernel)) (by omega)
        · skip
          refine pe_iload_n (j := 0) (by decide +kernel) rfl ?_
          refine pe_iload_n (j := 2) (by decide +kernel) rfl ?_
          refine pz_icmp_gt (off := 7) (t := 14) (by decide +kernel) (by decide) rfl rfl hz12 (fun h17 => ?_) (fun h17 => ?_)
          · skip
            refine pe_iconstv (n := 0) (v := 0) (by decide +kernel) (by decide +kernel) ?_
            refine pe_iret (by decide +kernel) rfl rfl ⟨rfl, rfl, ?_⟩
            show pmE pg X pg_tyl pg_cl (d + 1) 221 13 [.ref 147, .int x1, .int v5] [.int 0] (md wc f A) _
            refine pe_iret (by decide +kernel) rfl rfl ⟨rfl, rfl, ?_⟩
            show pmE pg X pg_tyl pg_cl (d + 2) 233 81 [.ref 147, .int x1, .int x2, .int x3, .int x4, .int x5, .int v5, .int v10] [.int 0] (md wc f A) _
            refine pz_if_eq (off := 37) (t := 118) (by decide +kernel) (by decide) rfl kz_0 (fun h18 => ?_) (fun h18 => by omega)
            refine pe_iconstv (n := 0) (v := 0) (by decide +kernel) (by decide +kernel) ?_
            refine pe_istore (j := 4) (ls' := [.ref 147, .int x1, .int x2, .int x3, .int 0, .int x5, .int v5, .int v10]) (by decide +kernel) (Nat.le_of_ble_eq_true rfl) rfl ?_
            refine pz_iinc (j := 5) (n := 1) (by decide +kernel) rfl rfl (by decide +kernel) (by omega) (by omega) (fun z19 hz19 => ?_)
            show pmE pg X pg_tyl pg_cl (d + 2) 233 124 [.ref 147, .int x1, .int x2, .int x3, .int 0, .int z19, .int v5, .int v10] [] (md wc f A) _
            refine pe_goto (off := (-91)) (t := 33) (by decide +kernel) (by decide) rfl ?_
            exact ih 0 z19 (.int v5) (.int v10) (by decide +kernel) (by omega) (fun h => absurd h (by decide +kernel)) (by omega)
          · skip
            refine pe_iconstv (n := 1) (v := 1) (by decide +kernel) (by decide +kernel) ?_
            refine pe_goto (off := 4) (t := 15) (by decide +kernel) (by decide) rfl ?_
            refine pe_iret (by decide +kernel) rfl rfl ⟨rfl, rfl, ?_⟩
            show pmE pg X pg_tyl pg_cl (d + 1) 221 13 [.ref 147, .int x1, .int v5] [.int 1] (md wc f A) _
            refine pe_iret (by decide +kernel) rfl rfl ⟨rfl, rfl, ?_⟩
            show pmE pg X pg_tyl pg_cl (d + 2) 233 81 [.ref 147, .int x1, .int x2, .int x3, .int x4, .int x5, .int v5, .int v10] [.int 1] (md wc f A) _
            refine pz_if_eq (off := 37) (t := 118) (by decide +kernel) (by decide) rfl kz_1 (fun h20 => by omega) (fun h20 => ?_)
            refine pe_aload_n (j := 0) (by decide +kernel) rfl ?_
            refine pe_iload_n (j := 1) (by decide +kernel) rfl ?_
            refine pe_iload (j := 7) (by decide +kernel) rfl ?_
            refine pi_V (j := 166) (mj := 221) (by decide +kernel) (cll_V (args := [.int v10, .int x1]) (n := 2) (by decide +kernel) rfl rfl (md_o hc) (by decide +kernel) (Nat.le_of_ble_eq_true rfl) (Nat.le_of_ble_eq_true rfl)) ?_
            show pmE pg X pg_tyl pg_cl (d + 1) 221 0 [.ref 147, .int x1, .int v10] [] (md wc f A) _
            refine pe_iload_n (j := 2) (by decide +kernel) rfl ?_
            refine pe_iconstv (n := 0) (v := 0) (by decide +kernel) (by decide +kernel) ?_
            refine pe_aload_n (j := 0) (by decide +kernel) rfl ?_
            refine pe_get (j := 7) (ci := 12) (n := 0) (by decide +kernel) (by decide +kernel) (md_o hc) rfl ?_
            refine pe_iload_n (j := 1) (by decide +kernel) rfl ?_
            refine pz_iald (by decide +kernel) (md_a148 hc) (mlen_148 hI) rfl (by omega) (by omega) (fun v21 ev21 => ?_)
            rw [ev21.trans ev11.symm]
            clear ev21 v21
            refine pe_iconstv (n := 1) (v := 1) (by decide +kernel) (by decide +kernel) ?_
            refine pz_sub (by decide +kernel) rfl kz_1 (by omega) (by omega) (fun z22 hz22 => ?_)
            refine pi_S (j := 119) (mj := 199) (by decide +kernel) (by decide +kernel) rfl ?_
            show pmE pg X pg_tyl pg_cl (d) 199 0 [.int v10, .int 0, .int z22] [] (md wc f A) _
            refine pe_iload_n (j := 0) (by decide +kernel) rfl ?_
            refine pe_iload_n (j := 1) (by decide +kernel) rfl ?_
            have lw24 := zi_lo v10
            have uw24 := zi_hi v10
            refine pz_icmp_lt (off := 12) (t := 14) (by decide +kernel) (by decide) rfl rfl kz_0 (fun h23 => ?_) (fun h23 => ?_)
            · skip
              refine pe_iconstv (n := 0) (v := 0) (by decide +kernel) (by decide +kernel) ?_
              refine pe_iret (by decide +kernel) rfl rfl ⟨rfl, rfl, ?_⟩
              show pmE pg X pg_tyl pg_cl (d + 1) 221 13 [.ref 147, .int x1, .int v10] [.int 0] (md wc f A) _
              refine pe_iret (by decide +kernel) rfl rfl ⟨rfl, rfl, ?_⟩
              show pmE pg X pg_tyl pg_cl (d + 2) 233 91 [.ref 147, .int x1, .int x2, .int x3, .int x4, .int x5, .int v5, .int v10] [.int 0] (md wc f A) _
              refine pz_if_eq (off := 27) (t := 118) (by decide +kernel) (by decide) rfl kz_0 (fun h25 => ?_) (fun h25 => by omega)
              refine pe_iconstv (n := 0) (v := 0) (by decide +kernel) (by decide +kernel) ?_
              refine pe_istore (j := 4) (ls' := [.ref 147, .int x1, .int x2, .int x3, .int 0, .int x5, .int v5, .int v10]) (by decide +kernel) (Nat.le_of_ble_eq_true rfl) rfl ?_
              refine pz_iinc (j := 5) (n := 1) (by decide +kernel) rfl rfl (by decide +kernel) (by omega) (by omega) (fun z26 hz26 => ?_)
              show pmE pg X pg_tyl pg_cl (d + 2) 233 124 [.ref 147, .int x1, .int x2, .int x3, .int 0, .int z26, .int v5, .int v10] [] (md wc f A) _
              refine pe_goto (off := (-91)) (t := 33) (by decide +kernel) (by decide) rfl ?_
              exact ih 0 z26 (.int v5) (.int v10) (by decide +kernel) (by omega) (fun h => absurd h (by decide +kernel)) (by omega)
            · skip
              refine pe_iload_n (j := 0) (by decide +kernel) rfl ?_
              refine pe_iload_n (j := 2) (by decide +kernel) rfl ?_
              refine pz_icmp_gt (off := 7) (t := 14) (by decide +kernel) (by decide) rfl rfl hz22 (fun h27 => ?_) (fun h27 => ?_)
              · skip
                refine pe_iconstv (n := 0) (v := 0) (by decide +kernel) (by decide +kernel) ?_
                refine pe_iret (by decide +kernel) rfl rfl ⟨rfl, rfl, ?_⟩
                show pmE pg X pg_tyl pg_cl (d + 1) 221 13 [.ref 147, .int x1, .int v10] [.int 0] (md wc f A) _
                refine pe_iret (by decide +kernel) rfl rfl ⟨rfl, rfl, ?_⟩
                show pmE pg X pg_tyl pg_cl (d + 2) 233 91 [.ref 147, .int x1, .int x2, .int x3, .int x4, .int x5, .int v5, .int v10] [.int 0] (md wc f A) _
                refine pz_if_eq (off := 27) (t := 118) (by decide +kernel) (by decide) rfl kz_0 (fun h28 => ?_) (fun h28 => by omega)
                refine pe_iconstv (n := 0) (v := 0) (by decide +kernel) (by decide +kernel) ?_
                refine pe_istore (j := 4) (ls' := [.ref 147, .int x1, .int x2, .int x3, .int 0, .int x5, .int v5, .int v10]) (by decide +kernel) (Nat.le_of_ble_eq_true rfl) rfl ?_
                refine pz_iinc (j := 5) (n := 1) (by decide +kernel) rfl rfl (by decide +kernel) (by omega) (by omega) (fun z29 hz29 => ?_)
                show pmE pg X pg_tyl pg_cl (d + 2) 233 124 [.ref 147, .int x1, .int x2, .int x3, .int 0, .int z29, .int v5, .int v10] [] (md wc f A) _
                refine pe_goto (off := (-91)) (t := 33) (by decide +kernel) (by decide) rfl ?_
                exact ih 0 z29 (.int v5) (.int v10) (by decide +kernel) (by omega) (fun h => absurd h (by decide +kernel)) (by omega)
              · skip
                refine pe_iconstv (n := 1) (v := 1) (by decide +kernel) (by decide +kernel) ?_
                refine pe_goto (off := 4) (t := 15) (by decide +kernel) (by decide) rfl ?_
                refine pe_iret (by decide +kernel) rfl rfl ⟨rfl, rfl, ?_⟩
                show pmE pg X pg_tyl pg_cl (d + 1) 221 13 [.ref 147, .int x1, .int v10] [.int 1] (md wc f A) _
                refine pe_iret (by decide +kernel) rfl rfl ⟨rfl, rfl, ?_⟩
                show pmE pg X pg_tyl pg_cl (d + 2) 233 91 [.ref 147, .int x1, .int x2, .int x3, .int x4, .int x5, .int v5, .int v10] [.int 1] (md wc f A) _
                refine pz_if_eq (off := 27) (t := 118) (by decide +kernel) (by decide) rfl kz_1 (fun h30 => by omega) (fun h30 => ?_)
                refine pe_aload_n (j := 0) (by decide +kernel) rfl ?_
                refine pe_iload_n (j := 1) (by decide +kernel) rfl ?_
                refine pe_iload (j := 6) (by decide +kernel) rfl ?_
                refine pe_iload (j := 7) (by decide +kernel) rfl ?_
                refine pz_callV (j := 199) (mj := 231) (by decide +kernel) (cll_V (args := [.int v10, .int v5, .int x1]) (n := 3) (by decide +kernel) rfl rfl (md_o hc) (by decide +kernel) (Nat.le_of_ble_eq_true rfl) (Nat.le_of_ble_eq_true rfl)) (MM_231 hc hI (by omega) (by omega) (by omega)) (fun q31a q31b q31c q31d hqq31 => ?_)
                obtain ⟨rq31, eq31, kq31⟩ := hqq31
                cases eq31
                refine ⟨rfl, rfl, ?_⟩
                show pmE pg X pg_tyl pg_cl (d + 2) 233 103 [.ref 147, .int x1, .int x2, .int x3, .int x4, .int x5, .int v5, .int v10] [.int rq31] (md wc f A) _
                refine pe_aload_n (j := 0) (by decide +kernel) rfl ?_
                refine pe_get (j := 7) (ci := 12) (n := 0) (by decide +kernel) (by decide +kernel) (md_o hc) rfl ?_
                refine pe_iload_n (j := 2) (by decide +kernel) rfl ?_
                refine pe_iconstv (n := 1) (v := 1) (by decide +kernel) (by decide +kernel) ?_
                refine pz_add (by decide +kernel) rfl kz_1 (by omega) (by omega) (fun z32 hz32 => ?_)
                refine pz_iald (by decide +kernel) (md_a148 hc) (mlen_148 hI) hz32 (by omega) (by omega) (fun v33 ev33 => ?_)
                clear hz32
                have lw35 := zi_lo rq31
                have uw35 := zi_hi rq31
                have lw36 := zi_lo v33
                have uw36 := zi_hi v33
                refine pz_icmp_lt (off := 7) (t := 118) (by decide +kernel) (by decide) rfl rfl rfl (fun h34 => ?_) (fun h34 => ?_)
                · skip
                  refine pe_iconstv (n := 0) (v := 0) (by decide +kernel) (by decide +kernel) ?_
                  refine pe_istore (j := 4) (ls' := [.ref 147, .int x1, .int x2, .int x3, .int 0, .int x5, .int v5, .int v10]) (by decide +kernel) (Nat.le_of_ble_eq_true rfl) rfl ?_
                  refine pz_iinc (j := 5) (n := 1) (by decide +kernel) rfl rfl (by decide +kernel) (by omega) (by omega) (fun z37 hz37 => ?_)
                  show pmE pg X pg_tyl pg_cl (d + 2) 233 124 [.ref 147, .int x1, .int x2, .int x3, .int 0, .int z37, .int v5, .int v10] [] (md wc f A) _
                  refine pe_goto (off := (-91)) (t := 33) (by decide +kernel) (by decide) rfl ?_
                  exact ih 0 z37 (.int v5) (.int v10) (by decide +kernel) (by omega) (fun h => absurd h (by decide +kernel)) (by omega)
                · skip
                  refine pe_iconstv (n := 1) (v := 1) (by decide +kernel) (by decide +kernel) ?_
                  refine pe_goto (off := 4) (t := 119) (by decide +kernel) (by decide) rfl ?_
                  refine pe_istore (j := 4) (ls' := [.ref 147, .int x1, .int x2, .int x3, .int 1, .int x5, .int v5, .int v10]) (by decide +kernel) (Nat.le_of_ble_eq_true rfl) rfl ?_
                  refine pz_iinc (j := 5) (n := 1) (by decide +kernel) rfl rfl (by decide +kernel) (by omega) (by omega) (fun z38 hz38 => ?_)
                  show pmE pg X pg_tyl pg_cl (d + 2) 233 124 [.ref 147, .int x1, .int x2, .int x3, .int 1, .int z38, .int v5, .int v10] [] (md wc f A) _
                  refine pe_goto (off := (-91)) (t := 33) (by decide +kernel) (by decide) rfl ?_
                  exact ih 1 z38 (.int v5) (.int v10) (by decide +kernel) (by omega) (fun _ => by rw [hz38]; exact PA_step (hpi0 (by omega)) (by rw [(show fr (A 148) (((x2.toInt + 3) + x5.toInt)) = v5.toInt from congrArg Int32.toInt ev5.symm)]; omega) (by rw [(show fr (A 148) (((x2.toInt + 3) + x5.toInt)) = v5.toInt from congrArg Int32.toInt ev5.symm), (show fr (A 148) (x1.toInt) = v11.toInt from congrArg Int32.toInt ev11.symm)]; omega)) (by omega)
set_option maxRecDepth 100000 in
set_option maxHeartbeats 8000000 in
theorem NL_233_2 {X : pm_X} {d : Nat} {wc : pm_W} {Q : pm_R → Prop} {f : Nat → Int32} {A : Nat → List Int32} {x1 x2 : Int32} (hc : wc.length = 147) (hI : MI f A) (gx1 : (610 ≤ x1.toInt ∧ x1.toInt ≤ 742 ∧ (x1.toInt - 610) % 132 = 0)) (gx2 : (875 ≤ x2.toInt ∧ x2.toInt ≤ 1680)) (k_27_0 : ∀ (y3 : Int32), (0 ≤ y3.toInt ∧ y3.toInt ≤ 6) → pmE pg X pg_tyl pg_cl (d + 2) 233 27 [.ref 147, .int x1, .int x2, .int y3, pm_dead, pm_dead, pm_dead, pm_dead] [] (md wc f A) Q) : ∀ (m : Nat) (x3 : Int32), (0 ≤ x3.toInt ∧ x3.toInt ≤ 6) → 6 - x3.toInt < (m : Int) → pmE pg X pg_tyl pg_cl (d + 2) 233 2 [.ref 147, .int x1, .int x2, .int x3, pm_dead, pm_dead, pm_dead, pm_dead] [] (md wc f A) Q := by
  intro m
  induction m with
  | zero =>
    intro x3 gx3 hm
    exfalso
    have l0 := zi_lo x3
    have u0 := zi_hi x3
    omega
  | succ m ih =>
    intro x3 gx3 hm
    refine pe_iload_n (j := 3) (by decide +kernel) rfl ?_
    refine pe_bipushv (n := 6) (v := 6) (by decide +kernel) (by decide +kernel) ?_
    refine pz_icmp_ge (off := 22) (t := 27) (by decide +kernel) (by decide) rfl rfl kz_6 (fun h1 => ?_) (fun h1 => ?_)
    · skip
      exact k_27_0 x3 (by omega)
    · skip
      refine pe_aload_n (j := 0) (by decide +kernel) rfl ?_
      refine pe_get (j := 7) (ci := 12) (n := 0) (by decide +kernel) (by decide +kernel) (md_o hc) rfl ?_
      refine pe_iload_n (j := 2) (by decide +kernel) rfl ?_
      refine pe_iconstv (n := 3) (v := 3) (by decide +kernel) (by decide +kernel) ?_
      refine pz_add (by decide +kernel) rfl kz_3 (by omega) (by omega) (fun z2 hz2 => ?_)
      refine pe_iload_n (j := 3) (by decide +kernel) rfl ?_
      refine pz_add (by decide +kernel) hz2 rfl (by omega) (by omega) (fun z3 hz3 => ?_)
      clear hz2
      refine pz_iald (by decide +kernel) (md_a148 hc) (mlen_148 hI) hz3 (by omega) (by omega) (fun v4 ev4 => ?_)
      clear hz3
      have lw6 := zi_lo v4
      have uw6 := zi_hi v4
      refine pz_if_lt (off := 9) (t := 27) (by decide +kernel) (by decide) rfl rfl (fun h5 => ?_) (fun h5 => ?_)
      · skip
        exact k_27_0 x3 (by omega)
      · skip
        refine pz_iinc (j := 3) (n := 1) (by decide +kernel) rfl rfl (by decide +kernel) (by omega) (by omega) (fun z7 hz7 => ?_)
        show pmE pg X pg_tyl pg_cl (d + 2) 233 24 [.ref 147, .int x1, .int x2, .int z7, pm_dead, pm_dead, pm_dead, pm_dead] [] (md wc f A) _
        refine pe_goto (off := (-22)) (t := 2) (by decide +kernel) (by decide) rfl ?_
        exact ih z7 (by omega) (by omega)
set_option maxRecDepth 100000 in
set_option maxHeartbeats 8000000 in
theorem NM_233 {X : pm_X} {d : Nat} {wc : pm_W} {f : Nat → Int32} {A : Nat → List Int32} {x1 x2 : Int32} (hc : wc.length = 147) (hI : MI f A) (gx1 : (610 ≤ x1.toInt ∧ x1.toInt ≤ 742 ∧ (x1.toInt - 610) % 132 = 0)) (gx2 : (875 ≤ x2.toInt ∧ x2.toInt ≤ 1680)) (hp14 : (0 ≤ (f 14).toInt ∧ (f 14).toInt ≤ 29)) (hpp0 : N0 (A 152)) (hpp1 : RG (A 153) (f 14).toInt) (hpp2 : 0 ≤ fr (A 148) (x2.toInt + 1) ∧ fr (A 148) (x2.toInt + 1) ≤ 99) : pmE pg X pg_tyl pg_cl (d + 2) 233 0 (pm_ent (pm_max pg 233) [.ref 147, .int x1, .int x2]) [] (md wc f A) (fun q => ∃ (f' : Nat → Int32) (A' : Nat → List Int32) (r : Int32), q = (some (.int r), md wc f' A', 0, 0) ∧ MI f' A' ∧ (∀ k : Nat, k ≠ 14 → f' k = f k) ∧ (∀ k : Nat, k ≠ 152 → k ≠ 153 → A' k = A k) ∧ ((f' 14).toInt + (-1) * (f 14).toInt + (-1)) ≤ 0 ∧ ((r = 1 ∧ DI (A' 152) (A 152) (fr (A 148) x1.toInt) 594 ∧ RG (A' 153) (f' 14).toInt ∧ True) ∨ (r = 0 ∧ DI (A' 152) (A 152) (fr (A 148) x1.toInt) 594 ∧ RG (A' 153) (f' 14).toInt ∧ True))) := by
  show pmE pg X pg_tyl pg_cl (d + 2) 233 0 [.ref 147, .int x1, .int x2, pm_dead, pm_dead, pm_dead, pm_dead, pm_dead] [] (md wc f A) _
  refine pe_iconstv (n := 0) (v := 0) (by decide +kernel) (by decide +kernel) ?_
  refine pe_istore_n (j := 3) (ls' := [.ref 147, .int x1, .int x2, .int 0, pm_dead, pm_dead, pm_dead, pm_dead]) (by decide +kernel) (Nat.le_of_ble_eq_true rfl) rfl ?_
  refine NL_233_2 hc hI (by omega) (by omega) (fun y1 gy1 => ?_) 7 0 (by decide +kernel) (by decide +kernel)
  refine pe_iconstv (n := 1) (v := 1) (by decide +kernel) (by decide +kernel) ?_
  refine pe_istore (j := 4) (ls' := [.ref 147, .int x1, .int x2, .int y1, .int 1, pm_dead, pm_dead, pm_dead]) (by decide +kernel) (Nat.le_of_ble_eq_true rfl) rfl ?_
  refine pe_iconstv (n := 0) (v := 0) (by decide +kernel) (by decide +kernel) ?_
  refine pe_istore (j := 5) (ls' := [.ref 147, .int x1, .int x2, .int y1, .int 1, .int 0, pm_dead, pm_dead]) (by decide +kernel) (Nat.le_of_ble_eq_true rfl) rfl ?_
  refine NL_233_33 hc hI (by omega) (by omega) (by omega) (fun y2 y3 u4 u5 gy2 gy3 hr6 hp7 => ?_) (fun y8 y9 u10 u11 gy8 gy9 hr12 hp13 => ?_) 7 1 0 (pm_dead) (pm_dead) (by decide +kernel) (by decide +kernel) (fun _ j j0 j1 => absurd j1 (by rw [kz_0]; omega)) (by decide +kernel)
  · skip
    refine pe_iload (j := 4) (by decide +kernel) rfl ?_
    refine pz_if_ne (off := 5) (t := 134) (by decide +kernel) (by decide) rfl rfl (fun h14 => ?_) (fun h14 => ?_)
    · skip
      have hpa15 : PA (A 148) x2.toInt y1.toInt (fr (A 148) x1.toInt) := by
        intro j j0 j1
        exact hp7 (by first | omega | exact kz_1) j j0 (by omega)
      refine pe_bipushv (n := 10) (v := 10) (by decide +kernel) (by decide +kernel) ?_
      refine pe_aload_n (j := 0) (by decide +kernel) rfl ?_
      refine pe_get (j := 175) (ci := 12) (n := 14) (by decide +kernel) (by decide +kernel) (md_o hc) rfl ?_
      refine pz_mul (by decide +kernel) kz_10 rfl (by omega) (by omega) (fun z16 hz16 => ?_)
      refine pe_istore (j := 5) (ls' := [.ref 147, .int x1, .int x2, .int y1, .int y2, .int z16, u4, u5]) (by decide +kernel) (Nat.le_of_ble_eq_true rfl) rfl ?_
      refine pe_aload_n (j := 0) (by decide +kernel) rfl ?_
      refine pe_get (j := 26) (ci := 12) (n := 13) (by decide +kernel) (by decide +kernel) (md_o hc) rfl ?_
      refine pe_iload (j := 5) (by decide +kernel) rfl ?_
      refine pe_iload_n (j := 3) (by decide +kernel) rfl ?_
      refine mz_st153 (by decide +kernel) hc hI hz16 (by omega) (by omega) (by simp only [MP_rings]; omega) (fun A17 eA17 hIA17 => ?_)
      refine pe_aload_n (j := 0) (by decide +kernel) rfl ?_
      refine pe_get (j := 26) (ci := 12) (n := 13) (by decide +kernel) (by decide +kernel) (md_o hc) rfl ?_
      refine pe_iload (j := 5) (by decide +kernel) rfl ?_
      refine pe_iconstv (n := 1) (v := 1) (by decide +kernel) (by decide +kernel) ?_
      refine pz_add (by decide +kernel) hz16 kz_1 (by omega) (by omega) (fun z18 hz18 => ?_)
      refine pe_aload_n (j := 0) (by decide +kernel) rfl ?_
      refine pe_get (j := 7) (ci := 12) (n := 0) (by decide +kernel) (by decide +kernel) (md_o hc) rfl ?_
      refine pe_iload_n (j := 2) (by decide +kernel) rfl ?_
      refine pe_iconstv (n := 1) (v := 1) (by decide +kernel) (by decide +kernel) ?_
      refine pz_add (by decide +kernel) rfl kz_1 (by omega) (by omega) (fun z19 hz19 => ?_)
      refine pz_iald (by decide +kernel) (md_a148 hc) (mlen_148 hIA17) hz19 (by omega) (by omega) (fun v20 ev20 => ?_)
      rw [show A17 148 = A 148 from upa_fr eA17 (by decide)] at ev20
      clear hz19
      have hb21 := hpp2
      rw [show (x2.toInt + 1) = (x2.toInt + 1) from rfl, (show fr (A 148) ((x2.toInt + 1)) = v20.toInt from congrArg Int32.toInt ev20.symm)] at hb21
      refine mz_st153 (by decide +kernel) hc hIA17 hz18 (by omega) (by omega) (by simp only [MP_rings]; omega) (fun A22 eA22 hIA22 => ?_)
      refine pe_aload_n (j := 0) (by decide +kernel) rfl ?_
      refine pe_get (j := 26) (ci := 12) (n := 13) (by decide +kernel) (by decide +kernel) (md_o hc) rfl ?_
      refine pe_iload (j := 5) (by decide +kernel) rfl ?_
      refine pe_iconstv (n := 2) (v := 2) (by decide +kernel) (by decide +kernel) ?_
      refine pz_add (by decide +kernel) hz16 kz_2 (by omega) (by omega) (fun z23 hz23 => ?_)
      refine pe_aload_n (j := 0) (by decide +kernel) rfl ?_
      refine pe_get (j := 7) (ci := 12) (n := 0) (by decide +kernel) (by decide +kernel) (md_o hc) rfl ?_
      refine pe_iload_n (j := 2) (by decide +kernel) rfl ?_
      refine pe_iconstv (n := 2) (v := 2) (by decide +kernel) (by decide +kernel) ?_
      refine pz_add (by decide +kernel) rfl kz_2 (by omega) (by omega) (fun z24 hz24 => ?_)
      refine pz_iald (by decide +kernel) (md_a148 hc) (mlen_148 hIA22) hz24 (by omega) (by omega) (fun v25 ev25 => ?_)
      rw [show A22 148 = A 148 from (upa_fr eA22 (by decide)).trans (upa_fr eA17 (by decide))] at ev25
      clear hz24
      refine mz_st153 (by decide +kernel) hc hIA22 hz23 (by omega) (by omega) (by simp only [MP_rings]; omega) (fun A26 eA26 hIA26 => ?_)
      refine pe_aload_n (j := 0) (by decide +kernel) rfl ?_
      refine pe_get (j := 26) (ci := 12) (n := 13) (by decide +kernel) (by decide +kernel) (md_o hc) rfl ?_
      refine pe_iload (j := 5) (by decide +kernel) rfl ?_
      refine pe_iconstv (n := 3) (v := 3) (by decide +kernel) (by decide +kernel) ?_
      refine pz_add (by decide +kernel) hz16 kz_3 (by omega) (by omega) (fun z27 hz27 => ?_)
      refine pe_iconstv (n := 1) (v := 1) (by decide +kernel) (by decide +kernel) ?_
      refine mz_st153 (by decide +kernel) hc hIA26 hz27 (by omega) (by omega) (by rw [kz_1]; simp only [MP_rings]; omega) (fun A28 eA28 hIA28 => ?_)
      refine pe_iconstv (n := 0) (v := 0) (by decide +kernel) (by decide +kernel) ?_
      refine pe_istore (j := 6) (ls' := [.ref 147, .int x1, .int x2, .int y1, .int y2, .int z16, .int 0, u5]) (by decide +kernel) (Nat.le_of_ble_eq_true rfl) rfl ?_
      refine NL_233_198 hc (by omega) (by omega) (by omega) (by omega) (by omega) (by omega) (by rw [show A28 148 = A 148 from (upa_fr eA28 (by decide)).trans ((upa_fr eA26 (by decide)).trans ((upa_fr eA22 (by decide)).trans (upa_fr eA17 (by decide))))]; exact hpa15) (mpeo hIA28 (by omega)) (fun A29 y30 hIy31 hFA29 gy30 hr32 hp33 hp34 => ?_) 7 A28 0 hIA28 (fun k _ => rfl) (by decide +kernel) (fun j j0 j1 => absurd j1 (by rw [kz_0]; omega)) RQ_refl (by decide +kernel)
      have hrn35 := ring_new (g := (f 14).toInt) (a := y1) (b := v20) (c := A 153) (c' := A29 153) hpp1 (by omega) (by rw [mlen_153 hI]; omega) (by omega) (by have h := hp34; rw [upa_at eA28, upa_at eA26, upa_at eA22, upa_at eA17] at h; exact h)
      refine pe_aload_n (j := 0) (by decide +kernel) rfl ?_
      refine pe_dup (by decide +kernel) rfl ?_
      refine pe_get (j := 175) (ci := 12) (n := 14) (by decide +kernel) (by decide +kernel) (md_o hc) rfl ?_
      refine pe_iconstv (n := 1) (v := 1) (by decide +kernel) (by decide +kernel) ?_
      refine pz_add (by decide +kernel) rfl kz_1 (by omega) (by omega) (fun z36 hz36 => ?_)
      refine mz_put14 (jj := 175) (by decide +kernel) (by decide +kernel) hc hIy31 (by omega) (by omega) (fun f37 ef37 hIf37 => ?_)
      refine pe_iconstv (n := 0) (v := 0) (by decide +kernel) (by decide +kernel) ?_
      refine pe_istore (j := 6) (ls' := [.ref 147, .int x1, .int x2, .int y1, .int y2, .int z16, .int 0, u5]) (by decide +kernel) (Nat.le_of_ble_eq_true rfl) rfl ?_
      have hg38 : (f37 14).toInt = ((f 14).toInt + 1) := (congrArg Int32.toInt (show f37 14 = z36 from upf_at ef37)).trans hz36
      have hpx39 := hz16
      have hr340 : RP (A29 153) (10 * ((f37 14).toInt - 1)) y1.toInt (fr (A29 148) x1.toInt) := by
        intro j j0 j1
        have h := hp33 j j0 (by omega)
        rw [show 10 * ((f37 14).toInt - 1) = 10 * (f 14).toInt by omega, show A29 148 = A28 148 from (hFA29 148 (by decide))]
        exact h
      have hx47 : (f37 14).toInt = ((f 14).toInt + 1) := (congrArg Int32.toInt (show f37 14 = z36 from upf_at ef37)).trans hz36
      refine NL_233_246 hc (by omega) (by omega) (by omega) (by omega) (by omega) hr340 (by rw [show 10 * ((f37 14).toInt - 1) = 10 * (f 14).toInt by omega]; exact hrn35.2) (by rw [show A29 152 = A 152 from ((hFA29 152 (by decide))).trans ((upa_fr eA28 (by decide)).trans ((upa_fr eA26 (by decide)).trans ((upa_fr eA22 (by decide)).trans (upa_fr eA17 (by decide)))))]; exact hpp0) (by rw [show A29 148 = A 148 from ((hFA29 148 (by decide))).trans ((upa_fr eA28 (by decide)).trans ((upa_fr eA26 (by decide)).trans ((upa_fr eA22 (by decide)).trans (upa_fr eA17 (by decide)))))]; exact hpp2) (fun A41 y42 hIy43 hFA41 gy42 hr44 hx45 hp46 => ?_) 7 A29 0 hIf37 (fun k _ => rfl) (by decide +kernel) (by omega) (DI_refl (by rw [show A29 152 = A 152 from ((hFA29 152 (by decide))).trans ((upa_fr eA28 (by decide)).trans ((upa_fr eA26 (by decide)).trans ((upa_fr eA22 (by decide)).trans (upa_fr eA17 (by decide)))))]; exact hpp0) (by rw [kz_0]; omega)) (by decide +kernel)
      refine pe_iconstv (n := 1) (v := 1) (by decide +kernel) (by decide +kernel) ?_
      have hx48 : (f37 14).toInt = ((f 14).toInt + 1) := (congrArg Int32.toInt (show f37 14 = z36 from upf_at ef37)).trans hz36
      have hg49 : (f37 14).toInt = ((f 14).toInt + 1) := (congrArg Int32.toInt (show f37 14 = z36 from upf_at ef37)).trans hz36
      exact pe_iret (by decide +kernel) rfl rfl ⟨f37, A41, 1, rfl, hIy43, (fun k n14 => upf_fr ef37 n14), (fun k n152 n153 => ((hFA41 k n152)).trans (((hFA29 k n153)).trans ((upa_fr eA28 n153).trans ((upa_fr eA26 n153).trans ((upa_fr eA22 n153).trans (upa_fr eA17 n153)))))), (by omega), Or.inl ⟨rfl, (by have h := hp46; rw [show A29 152 = A 152 from ((hFA29 152 (by decide))).trans ((upa_fr eA28 (by decide)).trans ((upa_fr eA26 (by decide)).trans ((upa_fr eA22 (by decide)).trans (upa_fr eA17 (by decide))))), show A29 148 = A 148 from ((hFA29 148 (by decide))).trans ((upa_fr eA28 (by decide)).trans ((upa_fr eA26 (by decide)).trans ((upa_fr eA22 (by decide)).trans (upa_fr eA17 (by decide)))))] at h; exact DI_up h (by omega)), (by rw [hg49, show A41 153 = A29 153 from (hFA41 153 (by decide))]; exact hrn35.1), trivial⟩⟩
    · skip
      refine pe_iconstv (n := 0) (v := 0) (by decide +kernel) (by decide +kernel) ?_
      exact pe_iret (by decide +kernel) rfl rfl ⟨f, A, 0, rfl, hI, (fun k n14 => rfl), (fun k n152 n153 => rfl), (by omega), Or.inr (⟨rfl, (DI_refl hpp0 (by decide)), hpp1, trivial⟩)⟩
  · skip
    refine pe_iload (j := 4) (by decide +kernel) rfl ?_
    refine pz_if_ne (off := 5) (t := 134) (by decide +kernel) (by decide) rfl rfl (fun h50 => by omega) (fun h50 => ?_)
    refine pe_iconstv (n := 0) (v := 0) (by decide +kernel) (by decide +kernel) ?_
    exact pe_iret (by decide +kernel) rfl rfl ⟨f, A, 0, rfl, hI, (fun k n14 => rfl), (fun k n152 n153 => rfl), (by omega), Or.inr (⟨rfl, (DI_refl hpp0 (by decide)), hpp1, trivial⟩)⟩
end
section
set_option maxRecDepth 100000 in
set_option maxHeartbeats 8000000 in
theorem NM_230 {X : pm_X} {d : Nat} {wc : pm_W} {f : Nat → Int32} {A : Nat → List Int32} {x1 x2 : Int32} (hc : wc.length = 147) (hI : MI f A) (gx1 : (610 ≤ x1.toInt ∧ x1.toInt ≤ 742 ∧ (x1.toInt - 610) % 132 = 0)) (gx2 : (875 ≤ x2.toInt ∧ x2.toInt ≤ 1680)) (hp14 : (0 ≤ (f 14).toInt ∧ (f 14).toInt ≤ 29)) (hpp0 : N0 (A 152)) (hpp1 : RG (A 153) (f 14).toInt) (hpp2 : ∃ a b : Int, x2.toInt = 875 + 272 * a + 9 * b ∧ (0 ≤ a ∧ a ≤ 2) ∧ 0 ≤ b ∧ b ≤ 29) : pmE pg X pg_tyl pg_cl (d + 4) 230 0 (pm_ent (pm_max pg 230) [.ref 147, .int x1, .int x2]) [] (md wc f A) (fun q => ∃ (f' : Nat → Int32) (A' : Nat → List Int32) (r : Int32), q = (some (.int r), md wc f' A', 0, 0) ∧ MI f' A' ∧ (∀ k : Nat, k ≠ 14 → k ≠ 15 → f' k = f k) ∧ (∀ k : Nat, k ≠ 152 → k ≠ 153 → A' k = A k) ∧ ((f' 14).toInt + (-1) * (f 14).toInt + (-1)) ≤ 0 ∧ ((r = 0 ∧ DI (A' 152) (A 152) (fr (A 148) x1.toInt) 594 ∧ RG (A' 153) (f' 14).toInt ∧ True) ∨ (r = 1 ∧ DI (A' 152) (A 152) (fr (A 148) x1.toInt) 594 ∧ RG (A' 153) (f' 14).toInt ∧ True))) := by
  show pmE pg X pg_tyl pg_cl (d + 4) 230 0 [.ref 147, .int x1, .int x2, pm_dead, pm_dead, pm_dead, pm_dead] [] (md wc f A) _
  refine pe_aload_n (j := 0) (by decide +kernel) rfl ?_
  refine pe_get (j := 7) (ci := 12) (n := 0) (by decide +kernel) (by decide +kernel) (md_o hc) rfl ?_
  refine pe_iload_n (j := 2) (by decide +kernel) rfl ?_
  refine pz_iald (by decide +kernel) (md_a148 hc) (mlen_148 hI) rfl (by omega) (by omega) (fun v1 ev1 => ?_)
  refine pe_istore_n (j := 3) (ls' := [.ref 147, .int x1, .int x2, .int v1, pm_dead, pm_dead, pm_dead]) (by decide +kernel) (Nat.le_of_ble_eq_true rfl) rfl ?_
  refine pe_aload_n (j := 0) (by decide +kernel) rfl ?_
  refine pe_get (j := 7) (ci := 12) (n := 0) (by decide +kernel) (by decide +kernel) (md_o hc) rfl ?_
  refine pe_iload_n (j := 2) (by decide +kernel) rfl ?_
  refine pe_iconstv (n := 1) (v := 1) (by decide +kernel) (by decide +kernel) ?_
  refine pz_add (by decide +kernel) rfl kz_1 (by omega) (by omega) (fun z2 hz2 => ?_)
  refine pz_iald (by decide +kernel) (md_a148 hc) (mlen_148 hI) hz2 (by omega) (by omega) (fun v3 ev3 => ?_)
  clear hz2
  refine pe_istore (j := 4) (ls' := [.ref 147, .int x1, .int x2, .int v1, .int v3, pm_dead, pm_dead]) (by decide +kernel) (Nat.le_of_ble_eq_true rfl) rfl ?_
  refine pe_iload_n (j := 3) (by decide +kernel) rfl ?_
  have lw5 := zi_lo v1
  have uw5 := zi_hi v1
  refine pz_if_eq (off := 8) (t := 26) (by decide +kernel) (by decide) rfl rfl (fun h4 => ?_) (fun h4 => ?_)
  · skip
    refine pe_aload_n (j := 0) (by decide +kernel) rfl ?_
    refine pe_get (j := 7) (ci := 12) (n := 0) (by decide +kernel) (by decide +kernel) (md_o hc) rfl ?_
    refine pe_iload_n (j := 2) (by decide +kernel) rfl ?_
    refine pe_iconstv (n := 2) (v := 2) (by decide +kernel) (by decide +kernel) ?_
    refine pz_add (by decide +kernel) rfl kz_2 (by omega) (by omega) (fun z6 hz6 => ?_)
    refine pz_iald (by decide +kernel) (md_a148 hc) (mlen_148 hI) hz6 (by omega) (by omega) (fun v7 ev7 => ?_)
    clear hz6
    refine pe_istore (j := 5) (ls' := [.ref 147, .int x1, .int x2, .int v1, .int v3, .int v7, pm_dead]) (by decide +kernel) (Nat.le_of_ble_eq_true rfl) rfl ?_
    refine pe_aload_n (j := 0) (by decide +kernel) rfl ?_
    refine pe_get (j := 7) (ci := 12) (n := 0) (by decide +kernel) (by decide +kernel) (md_o hc) rfl ?_
    refine pe_iload_n (j := 2) (by decide +kernel) rfl ?_
    refine pe_iconstv (n := 3) (v := 3) (by decide +kernel) (by decide +kernel) ?_
    refine pz_add (by decide +kernel) rfl kz_3 (by omega) (by omega) (fun z8 hz8 => ?_)
    refine pz_iald (by decide +kernel) (md_a148 hc) (mlen_148 hI) hz8 (by omega) (by omega) (fun v9 ev9 => ?_)
    clear hz8
    refine pe_istore (j := 6) (ls' := [.ref 147, .int x1, .int x2, .int v1, .int v3, .int v7, .int v9]) (by decide +kernel) (Nat.le_of_ble_eq_true rfl) rfl ?_
    have hmo := mi_rowO hI (i := x2.toInt) hpp2 ev1 ev9 (by omega)
    refine pe_aload_n (j := 0) (by decide +kernel) rfl ?_
    refine pe_iload_n (j := 1) (by decide +kernel) rfl ?_
    refine pe_iload (j := 4) (by decide +kernel) rfl ?_
    refine pi_V (j := 166) (mj := 221) (by decide +kernel) (cll_V (args := [.int v3, .int x1]) (n := 2) (by decide +kernel) rfl rfl (md_o hc) (by decide +kernel) (Nat.le_of_ble_eq_true rfl) (Nat.le_of_ble_eq_true rfl)) ?_
    show pmE pg X pg_tyl pg_cl (d + 3) 221 0 [.ref 147, .int x1, .int v3] [] (md wc f A) _
    refine pe_iload_n (j := 2) (by decide +kernel) rfl ?_
    refine pe_iconstv (n := 0) (v := 0) (by decide +kernel) (by decide +kernel) ?_
    refine pe_aload_n (j := 0) (by decide +kernel) rfl ?_
    refine pe_get (j := 7) (ci := 12) (n := 0) (by decide +kernel) (by decide +kernel) (md_o hc) rfl ?_
    refine pe_iload_n (j := 1) (by decide +kernel) rfl ?_
    refine pz_iald (by decide +kernel) (md_a148 hc) (mlen_148 hI) rfl (by omega) (by omega) (fun v10 ev10 => ?_)
    have rv10 : 0 ≤ v10.toInt ∧ v10.toInt ≤ 9 := MT_people (mt_148 hI ev10 (by omega)) (by omega)
    refine pe_iconstv (n := 1) (v := 1) (by decide +kernel) (by decide +kernel) ?_
    refine pz_sub (by decide +kernel) rfl kz_1 (by omega) (by omega) (fun z11 hz11 => ?_)
    refine pi_S (j := 119) (mj := 199) (by decide +kernel) (by decide +kernel) rfl ?_
    show pmE pg X pg_tyl pg_cl (d + 2) 199 0 [.int v3, .int 0, .int z11] [] (md wc f A) _
    refine pe_iload_n (j := 0) (by decide +kernel) rfl ?_
    refine pe_iload_n (j := 1) (by decide +kernel) rfl ?_
    have lw13 := zi_lo v3
    have uw13 := zi_hi v3
    refine pz_icmp_lt (off := 12) (t := 14) (by decide +kernel) (by decide) rfl rfl kz_0 (fun h12 => ?_) (fun h12 => ?_)
    · skip
      refine pe_iconstv (n := 0) (v := 0) (by decide +kernel) (by decide +kernel) ?_
      refine pe_iret (by decide +kernel) rfl rfl ⟨rfl, rfl, ?_⟩
      show pmE pg X pg_tyl pg_cl (d + 3) 221 13 [.ref 147, .int x1, .int v3] [.int 0] (md wc f A) _
      refine pe_iret (by decide +kernel) rfl rfl ⟨rfl, rfl, ?_⟩
      show pmE pg X pg_tyl pg_cl (d + 4) 230 53 [.ref 147, .int x1, .int x2, .int v1, .int v3, .int v7, .int v9] [.int 0] (md wc f A) _
      refine pz_if_eq (off := 42) (t := 95) (by decide +kernel) (by decide) rfl kz_0 (fun h14 => ?_) (fun h14 => by omega)
      refine pe_iconstv (n := 0) (v := 0) (by decide +kernel) (by decide +kernel) ?_
      exact pe_iret (by decide +kernel) rfl rfl ⟨f, A, 0, rfl, hI, (fun k n14 n15 => rfl), (fun k n152 n153 => rfl), (by omega), Or.inl ⟨rfl, (DI_refl hpp0 (by decide)), hpp1, trivial⟩⟩
    · skip
      refine pe_iload_n (j := 0) (by decide +kernel) rfl ?_
      refine pe_iload_n (j := 2) (by decide +kernel) rfl ?_
      refine pz_icmp_gt (off := 7) (t := 14) (by decide +kernel) (by decide) rfl rfl hz11 (fun h15 => ?_) (fun h15 => ?_)
      · skip
        refine pe_iconstv (n := 0) (v := 0) (by decide +kernel) (by decide +kernel) ?_
        refine pe_iret (by decide +kernel) rfl rfl ⟨rfl, rfl, ?_⟩
        show pmE pg X pg_tyl pg_cl (d + 3) 221 13 [.ref 147, .int x1, .int v3] [.int 0] (md wc f A) _
        refine pe_iret (by decide +kernel) rfl rfl ⟨rfl, rfl, ?_⟩
        show pmE pg X pg_tyl pg_cl (d + 4) 230 53 [.ref 147, .int x1, .int x2, .int v1, .int v3, .int v7, .int v9] [.int 0] (md wc f A) _
        refine pz_if_eq (off := 42) (t := 95) (by decide +kernel) (by decide) rfl kz_0 (fun h16 => ?_) (fun h16 => by omega)
        refine pe_iconstv (n := 0) (v := 0) (by decide +kernel) (by decide +kernel) ?_
        exact pe_iret (by decide +kernel) rfl rfl ⟨f, A, 0, rfl, hI, (fun k n14 n15 => rfl), (fun k n152 n153 => rfl), (by omega), Or.inl ⟨rfl, (DI_refl hpp0 (by decide)), hpp1, trivial⟩⟩
      · skip
        refine pe_iconstv (n := 1) (v := 1) (by decide +kernel) (by decide +kernel) ?_
        refine pe_goto (off := 4) (t := 15) (by decide +kernel) (by decide) rfl ?_
        refine pe_iret (by decide +kernel) rfl rfl ⟨rfl, rfl, ?_⟩
        show pmE pg X pg_tyl pg_cl (d + 3) 221 13 [.ref 147, .int x1, .int v3] [.int 1] (md wc f A) _
        refine pe_iret (by decide +kernel) rfl rfl ⟨rfl, rfl, ?_⟩
        show pmE pg X pg_tyl pg_cl (d + 4) 230 53 [.ref 147, .int x1, .int x2, .int v1, .int v3, .int v7, .int v9] [.int 1] (md wc f A) _
        refine pz_if_eq (off := 42) (t := 95) (by decide +kernel) (by decide) rfl kz_1 (fun h17 => by omega) (fun h17 => ?_)
        refine pe_aload_n (j := 0) (by decide +kernel) rfl ?_
        refine pe_iload_n (j := 1) (by decide +kernel) rfl ?_
        refine pe_iload (j := 5) (by decide +kernel) rfl ?_
        refine pi_V (j := 166) (mj := 221) (by decide +kernel) (cll_V (args := [.int v7, .int x1]) (n := 2) (by decide +kernel) rfl rfl (md_o hc) (by decide +kernel) (Nat.le_of_ble_eq_true rfl) (Nat.le_of_ble_eq_true rfl)) ?_
        show pmE pg X pg_tyl pg_cl (d + 3) 221 0 [.ref 147, .int x1, .int v7] [] (md wc f A) _
        refine pe_iload_n (j := 2) (by decide +kernel) rfl ?_
        refine pe_iconstv (n := 0) (v := 0) (by decide +kernel) (by decide +kernel) ?_
        refine pe_aload_n (j := 0) (by decide +kernel) rfl ?_
        refine pe_get (j := 7) (ci := 12) (n := 0) (by decide +kernel) (by decide +kernel) (md_o hc) rfl ?_
        refine pe_iload_n (j := 1) (by decide +kernel) rfl ?_
        refine pz_iald (by decide +kernel) (md_a148 hc) (mlen_148 hI) rfl (by omega) (by omega) (fun v18 ev18 => ?_)
        rw [ev18.trans ev10.symm]
        clear ev18 v18
        refine pe_iconstv (n := 1) (v := 1) (by decide +kernel) (by decide +kernel) ?_
        refine pz_sub (by decide +kernel) rfl kz_1 (by omega) (by omega) (fun z19 hz19 => ?_)
        refine pi_S (j := 119) (mj := 199) (by decide +kernel) (by decide +kernel) rfl ?_
        show pmE pg X pg_tyl pg_cl (d + 2) 199 0 [.int v7, .int 0, .int z19] [] (md wc f A) _
        refine pe_iload_n (j := 0) (by decide +kernel) rfl ?_
        refine pe_iload_n (j := 1) (by decide +kernel) rfl ?_
        have lw21 := zi_lo v7
        have uw21 := zi_hi v7
        refine pz_icmp_lt (off := 12) (t := 14) (by decide +kernel) (by decide) rfl rfl kz_0 (fun h20 => ?_) (fun h20 => ?_)
        · skip
          refine pe_iconstv (n := 0) (v := 0) (by decide +kernel) (by decide +kernel) ?_
          refine pe_iret (by decide +kernel) rfl rfl ⟨rfl, rfl, ?_⟩
          show pmE pg X pg_tyl pg_cl (d + 3) 221 13 [.ref 147, .int x1, .int v7] [.int 0] (md wc f A) _
          refine pe_iret (by decide +kernel) rfl rfl ⟨rfl, rfl, ?_⟩
          show pmE pg X pg_tyl pg_cl (d + 4) 230 63 [.ref 147, .int x1, .int x2, .int v1, .int v3, .int v7, .int v9] [.int 0] (md wc f A) _
          refine pz_if_eq (off := 32) (t := 95) (by decide +kernel) (by decide) rfl kz_0 (fun h22 => ?_) (fun h22 => by omega)
          refine pe_iconstv (n := 0) (v := 0) (by decide +kernel) (by decide +kernel) ?_
          exact pe_iret (by decide +kernel) rfl rfl ⟨f, A, 0, rfl, hI, (fun k n14 n15 => rfl), (fun k n152 n153 => rfl), (by omega), Or.inl ⟨rfl, (DI_refl hpp0 (by decide)), hpp1, trivial⟩⟩
        · skip
          refine pe_iload_n (j := 0) (by decide +kernel) rfl ?_
          refine pe_iload_n (j := 2) (by decide +kernel) rfl ?_
          refine pz_icmp_gt (off := 7) (t := 14) (by decide +kernel) (by decide) rfl rfl hz19 (fun h23 => ?_) (fun h23 => ?_)
          · skip
            refine pe_iconstv (n := 0) (v := 0) (by decide +kernel) (by decide +kernel) ?_
            refine pe_iret (by decide +kernel) rfl rfl ⟨rfl, rfl, ?_⟩
            show pmE pg X pg_tyl pg_cl (d + 3) 221 13 [.ref 147, .int x1, .int v7] [.int 0] (md wc f A) _
            refine pe_iret (by decide +kernel) rfl rfl ⟨rfl, rfl, ?_⟩
            show pmE pg X pg_tyl pg_cl (d + 4) 230 63 [.ref 147, .int x1, .int x2, .int v1, .int v3, .int v7, .int v9] [.int 0] (md wc f A) _
            refine pz_if_eq (off := 32) (t := 95) (by decide +kernel) (by decide) rfl kz_0 (fun h24 => ?_) (fun h24 => by omega)
            refine pe_iconstv (n := 0) (v := 0) (by decide +kernel) (by decide +kernel) ?_
            exact pe_iret (by decide +kernel) rfl rfl ⟨f, A, 0, rfl, hI, (fun k n14 n15 => rfl), (fun k n152 n153 => rfl), (by omega), Or.inl ⟨rfl, (DI_refl hpp0 (by decide)), hpp1, trivial⟩⟩
          · skip
            refine pe_iconstv (n := 1) (v := 1) (by decide +kernel) (by decide +kernel) ?_
            refine pe_goto (off := 4) (t := 15) (by decide +kernel) (by decide) rfl ?_
            refine pe_iret (by decide +kernel) rfl rfl ⟨rfl, rfl, ?_⟩
            show pmE pg X pg_tyl pg_cl (d + 3) 221 13 [.ref 147, .int x1, .int v7] [.int 1] (md wc f A) _
            refine pe_iret (by decide +kernel) rfl rfl ⟨rfl, rfl, ?_⟩
            show pmE pg X pg_tyl pg_cl (d + 4) 230 63 [.ref 147, .int x1, .int x2, .int v1, .int v3, .int v7, .int v9] [.int 1] (md wc f A) _
            refine pz_if_eq (off := 32) (t := 95) (by decide +kernel) (by decide) rfl kz_1 (fun h25 => by omega) (fun h25 => ?_)
            refine pe_iload_n (j := 3) (by decide +kernel) rfl ?_
            refine pz_if_ne (off := 15) (t := 82) (by decide +kernel) (by decide) rfl rfl (fun h26 => by omega) (fun h26 => ?_)
            refine pe_aload_n (j := 0) (by decide +kernel) rfl ?_
            refine pe_iload_n (j := 1) (by decide +kernel) rfl ?_
            refine pe_iload (j := 4) (by decide +kernel) rfl ?_
            refine pe_iload (j := 5) (by decide +kernel) rfl ?_
            refine pz_callV (j := 199) (mj := 231) (by decide +kernel) (cll_V (args := [.int v7, .int v3, .int x1]) (n := 3) (by decide +kernel) rfl rfl (md_o hc) (by decide +kernel) (Nat.le_of_ble_eq_true rfl) (Nat.le_of_ble_eq_true rfl)) (MM_231 hc hI (by omega) (by omega) (by omega)) (fun q27a q27b q27c q27d hqq27 => ?_)
            obtain ⟨rq27, eq27, kq27⟩ := hqq27
            cases eq27
            refine ⟨rfl, rfl, ?_⟩
            show pmE pg X pg_tyl pg_cl (d + 4) 230 79 [.ref 147, .int x1, .int x2, .int v1, .int v3, .int v7, .int v9] [.int rq27] (md wc f A) _
            refine pe_goto (off := 11) (t := 90) (by decide +kernel) (by decide) rfl ?_
            refine pe_iload (j := 6) (by decide +kernel) rfl ?_
            have lw29 := zi_lo rq27
            have uw29 := zi_hi rq27
            refine pz_icmp_ge (off := 5) (t := 97) (by decide +kernel) (by decide) rfl rfl rfl (fun h28 => ?_) (fun h28 => ?_)
            · skip
              refine pe_aload_n (j := 0) (by decide +kernel) rfl ?_
              refine pe_get (j := 23) (ci := 12) (n := 12) (by decide +kernel) (by decide +kernel) (md_o hc) rfl ?_
              refine pe_bipushv (n := 9) (v := 9) (by decide +kernel) (by decide +kernel) ?_
              refine pe_iload (j := 4) (by decide +kernel) rfl ?_
              refine pz_mul (by decide +kernel) kz_9 rfl (by omega) (by omega) (fun z30 hz30 => ?_)
              refine pe_iload (j := 5) (by decide +kernel) rfl ?_
              refine pz_add (by decide +kernel) hz30 rfl (by omega) (by omega) (fun z31 hz31 => ?_)
              clear hz30
              refine pe_dup2 (by decide +kernel) ⟨rfl, rfl⟩ ?_
              refine pz_iald (by decide +kernel) (md_a152 hc) (mlen_152 hI) hz31 (by omega) (by omega) (fun v32 ev32 => ?_)
              have hb33 := hpp0 (((9 * v3.toInt) + v7.toInt)) (by omega) (by omega)
              rw [(show fr (A 152) (((9 * v3.toInt) + v7.toInt)) = v32.toInt from congrArg Int32.toInt ev32.symm)] at hb33
              refine pe_iload_n (j := 3) (by decide +kernel) rfl ?_
              refine pz_if_ne (off := 8) (t := 120) (by decide +kernel) (by decide) rfl rfl (fun h34 => by omega) (fun h34 => ?_)
              refine pe_iload (j := 6) (by decide +kernel) rfl ?_
              refine pe_goto (off := 6) (t := 123) (by decide +kernel) (by decide) rfl ?_
              refine pz_add (by decide +kernel) rfl rfl (by omega) (by omega) (fun z35 hz35 => ?_)
              refine mz_st152 (by decide +kernel) hc hI hz31 (by omega) (by omega) (fun A36 eA36 hIA36 => ?_)
              refine pe_iconstv (n := 1) (v := 1) (by decide +kernel) (by decide +kernel) ?_
              exact pe_iret (by decide +kernel) rfl rfl ⟨f, A36, 1, rfl, hIA36, (fun k n14 n15 => rfl), (fun k n152 n153 => upa_fr eA36 n152), (by omega), Or.inr (⟨rfl, (by rw [upa_at eA36, (show fr (A 148) (x1.toInt) = v10.toInt from congrArg Int32.toInt ev10.symm)]; exact DI_up (DI_set (i := ((9 * v3.toInt) + v7.toInt)) (n := 99) (DI_refl (m := 0) hpp0 (by decide)) (by omega) (by omega) (mlen_152 hI) (by omega) (by rw [(show fr (A 152) (((9 * v3.toInt) + v7.toInt)) = v32.toInt from congrArg Int32.toInt ev32.symm)]; omega) (by decide) (fun h => absurd h (by omega))) (by decide)), (by rw [upa_fr eA36 (by decide : (153 : Nat) ≠ 152)]; exact hpp1), trivial⟩)⟩
            · skip
              refine pe_iconstv (n := 0) (v := 0) (by decide +kernel) (by decide +kernel) ?_
              exact pe_iret (by decide +kernel) rfl rfl ⟨f, A, 0, rfl, hI, (fun k n14 n15 => rfl), (fun k n152 n153 => rfl), (by omega), Or.inl ⟨rfl, (DI_refl hpp0 (by decide)), hpp1, trivial⟩⟩
  · skip
    refine pe_iload_n (j := 3) (by decide +kernel) rfl ?_
    refine pe_iconstv (n := 1) (v := 1) (by decide +kernel) (by decide +kernel) ?_
    refine pz_icmp_ne (off := 104) (t := 127) (by decide +kernel) (by decide) rfl rfl kz_1 (fun h37 => ?_) (fun h37 => ?_)
    · skip
      refine pe_iload_n (j := 3) (by decide +kernel) rfl ?_
      refine pe_iconstv (n := 2) (v := 2) (by decide +kernel) (by decide +kernel) ?_
      refine pz_icmp_ne (off := 10) (t := 139) (by decide +kernel) (by decide) rfl rfl kz_2 (fun h38 => ?_) (fun h38 => ?_)
      · skip
        refine pe_iload_n (j := 3) (by decide +kernel) rfl ?_
        refine pe_iconstv (n := 3) (v := 3) (by decide +kernel) (by decide +kernel) ?_
        refine pz_icmp_ne (off := 32) (t := 173) (by decide +kernel) (by decide) rfl rfl kz_3 (fun h39 => ?_) (fun h39 => ?_)
        · skip
          refine pe_iload_n (j := 3) (by decide +kernel) rfl ?_
          refine pe_iconstv (n := 4) (v := 4) (by decide +kernel) (by decide +kernel) ?_
          refine pz_icmp_ne (off := 24) (t := 199) (by decide +kernel) (by decide) rfl rfl kz_4 (fun h40 => ?_) (fun h40 => ?_)
          · skip
            refine pe_aload_n (j := 0) (by decide +kernel) rfl ?_
            refine pz_callV (j := 208) (mj := 240) (by decide +kernel) (cll_V (args := []) (n := 0) (by decide +kernel) rfl rfl (md_o hc) (by decide +kernel) (Nat.le_of_ble_eq_true rfl) (Nat.le_of_ble_eq_true rfl)) (NM_240 hc hI hpp0 hpp1) (fun q41a q41b q41c q41d hqq41 => ?_)
            obtain ⟨f42, A43, eq41, hIq41, hGq41, hFq41, kq41⟩ := hqq41
            cases eq41
            refine ⟨rfl, rfl, ?_⟩
            obtain ⟨hp44, hp45, kq41⟩ := kq41
            show pmE pg X pg_tyl pg_cl (d + 4) 230 203 [.ref 147, .int x1, .int x2, .int v1, .int v3, pm_dead, pm_dead] [] (md wc f42 A43) _
            refine pe_iconstv (n := 1) (v := 1) (by decide +kernel) (by decide +kernel) ?_
            have hx46 : (f42 14).toInt = (f 14).toInt := (congrArg Int32.toInt (show f42 14 = (f 14) from (hGq41 14 (by decide)))).trans rfl
            exact pe_iret (by decide +kernel) rfl rfl ⟨f42, A43, 1, rfl, hIq41, (fun k n14 n15 => (hGq41 k n15)), (fun k n152 n153 => (hFq41 k n152 n153)), (by omega), Or.inr (⟨rfl, (DI_w hp44 (by first | exact Int.le_refl _ | exact (mpeo hI (by omega)).1) (by decide)), (by rw [show f42 14 = f 14 from (hGq41 14 (by decide))]; exact RG_re hpp1 hp45), trivial⟩)⟩
          · skip
            refine pe_aload_n (j := 0) (by decide +kernel) rfl ?_
            refine pe_iload_n (j := 1) (by decide +kernel) rfl ?_
            refine pe_iload (j := 4) (by decide +kernel) rfl ?_
            refine pi_V (j := 166) (mj := 221) (by decide +kernel) (cll_V (args := [.int v3, .int x1]) (n := 2) (by decide +kernel) rfl rfl (md_o hc) (by decide +kernel) (Nat.le_of_ble_eq_true rfl) (Nat.le_of_ble_eq_true rfl)) ?_
            show pmE pg X pg_tyl pg_cl (d + 3) 221 0 [.ref 147, .int x1, .int v3] [] (md wc f A) _
            refine pe_iload_n (j := 2) (by decide +kernel) rfl ?_
            refine pe_iconstv (n := 0) (v := 0) (by decide +kernel) (by decide +kernel) ?_
            refine pe_aload_n (j := 0) (by decide +kernel) rfl ?_
            refine pe_get (j := 7) (ci := 12) (n := 0) (by decide +kernel) (by decide +kernel) (md_o hc) rfl ?_
            refine pe_iload_n (j := 1) (by decide +kernel) rfl ?_
            refine pz_iald (by decide +kernel) (md_a148 hc) (mlen_148 hI) rfl (by omega) (by omega) (fun v47 ev47 => ?_)
            have rv47 : 0 ≤ v47.toInt ∧ v47.toInt ≤ 9 := MT_people (mt_148 hI ev47 (by omega)) (by omega)
            refine pe_iconstv (n := 1) (v := 1) (by decide +kernel) (by decide +kernel) ?_
            refine pz_sub (by decide +kernel) rfl kz_1 (by omega) (by omega) (fun z48 hz48 => ?_)
            refine pi_S (j := 119) (mj := 199) (by decide +kernel) (by decide +kernel) rfl ?_
            show pmE pg X pg_tyl pg_cl (d + 2) 199 0 [.int v3, .int 0, .int z48] [] (md wc f A) _
            refine pe_iload_n (j := 0) (by decide +kernel) rfl ?_
            refine pe_iload_n (j := 1) (by decide +kernel) rfl ?_
            have lw50 := zi_lo v3
            have uw50 := zi_hi v3
            refine pz_icmp_lt (off := 12) (t := 14) (by decide +kernel) (by decide) rfl rfl kz_0 (fun h49 => ?_) (fun h49 => ?_)
            · skip
              refine pe_iconstv (n := 0) (v := 0) (by decide +kernel) (by decide +kernel) ?_
              refine pe_iret (by decide +kernel) rfl rfl ⟨rfl, rfl, ?_⟩
              show pmE pg X pg_tyl pg_cl (d + 3) 221 13 [.ref 147, .int x1, .int v3] [.int 0] (md wc f A) _
              refine pe_iret (by decide +kernel) rfl rfl ⟨rfl, rfl, ?_⟩
              show pmE pg X pg_tyl pg_cl (d + 4) 230 185 [.ref 147, .int x1, .int x2, .int v1, .int v3, pm_dead, pm_dead] [.int 0] (md wc f A) _
              refine pz_if_ne (off := 5) (t := 190) (by decide +kernel) (by decide) rfl kz_0 (fun h51 => by omega) (fun h51 => ?_)
              refine pe_iconstv (n := 0) (v := 0) (by decide +kernel) (by decide +kernel) ?_
              exact pe_iret (by decide +kernel) rfl rfl ⟨f, A, 0, rfl, hI, (fun k n14 n15 => rfl), (fun k n152 n153 => rfl), (by omega), Or.inl ⟨rfl, (DI_refl hpp0 (by decide)), hpp1, trivial⟩⟩
            · skip
              refine pe_iload_n (j := 0) (by decide +kernel) rfl ?_
              refine pe_iload_n (j := 2) (by decide +kernel) rfl ?_
              refine pz_icmp_gt (off := 7) (t := 14) (by decide +kernel) (by decide) rfl rfl hz48 (fun h52 => ?_) (fun h52 => ?_)
              · skip
                refine pe_iconstv (n := 0) (v := 0) (by decide +kernel) (by decide +kernel) ?_
                refine pe_iret (by decide +kernel) rfl rfl ⟨rfl, rfl, ?_⟩
                show pmE pg X pg_tyl pg_cl (d + 3) 221 13 [.ref 147, .int x1, .int v3] [.int 0] (md wc f A) _
                refine pe_iret (by decide +kernel) rfl rfl ⟨rfl, rfl, ?_⟩
                show pmE pg X pg_tyl pg_cl (d + 4) 230 185 [.ref 147, .int x1, .int x2, .int v1, .int v3, pm_dead, pm_dead] [.int 0] (md wc f A) _
                refine pz_if_ne (off := 5) (t := 190) (by decide +kernel) (by decide) rfl kz_0 (fun h53 => by omega) (fun h53 => ?_)
                refine pe_iconstv (n := 0) (v := 0) (by decide +kernel) (by decide +kernel) ?_
                exact pe_iret (by decide +kernel) rfl rfl ⟨f, A, 0, rfl, hI, (fun k n14 n15 => rfl), (fun k n152 n153 => rfl), (by omega), Or.inl ⟨rfl, (DI_refl hpp0 (by decide)), hpp1, trivial⟩⟩
              · skip
                refine pe_iconstv (n := 1) (v := 1) (by decide +kernel) (by decide +kernel) ?_
                refine pe_goto (off := 4) (t := 15) (by decide +kernel) (by decide) rfl ?_
                refine pe_iret (by decide +kernel) rfl rfl ⟨rfl, rfl, ?_⟩
                show pmE pg X pg_tyl pg_cl (d + 3) 221 13 [.ref 147, .int x1, .int v3] [.int 1] (md wc f A) _
                refine pe_iret (by decide +kernel) rfl rfl ⟨rfl, rfl, ?_⟩
                show pmE pg X pg_tyl pg_cl (d + 4) 230 185 [.ref 147, .int x1, .int x2, .int v1, .int v3, pm_dead, pm_dead] [.int 1] (md wc f A) _
                refine pz_if_ne (off := 5) (t := 190) (by decide +kernel) (by decide) rfl kz_1 (fun h54 => ?_) (fun h54 => by omega)
                refine pe_aload_n (j := 0) (by decide +kernel) rfl ?_
                refine pe_iload (j := 4) (by decide +kernel) rfl ?_
                refine pz_callV (j := 205) (mj := 238) (by decide +kernel) (cll_V (args := [.int v3]) (n := 1) (by decide +kernel) rfl rfl (md_o hc) (by decide +kernel) (Nat.le_of_ble_eq_true rfl) (Nat.le_of_ble_eq_true rfl)) (NM_238 hc hI (by omega) hpp0 hpp1) (fun q55a q55b q55c q55d hqq55 => ?_)
                obtain ⟨A56, eq55, hIq55, hFq55, kq55⟩ := hqq55
                cases eq55
                refine ⟨rfl, rfl, ?_⟩
                obtain ⟨hp57, hp58, kq55⟩ := kq55
                show pmE pg X pg_tyl pg_cl (d + 4) 230 196 [.ref 147, .int x1, .int x2, .int v1, .int v3, pm_dead, pm_dead] [] (md wc f A56) _
                refine pe_goto (off := 7) (t := 203) (by decide +kernel) (by decide) rfl ?_
                refine pe_iconstv (n := 1) (v := 1) (by decide +kernel) (by decide +kernel) ?_
                exact pe_iret (by decide +kernel) rfl rfl ⟨f, A56, 1, rfl, hIq55, (fun k n14 n15 => rfl), (fun k n152 n153 => (hFq55 k n152 n153)), (by omega), Or.inr (⟨rfl, (DI_w hp57 (by first | exact Int.le_refl _ | exact (mpeo hI (by omega)).1) (by decide)), (RG_re hpp1 hp58), trivial⟩)⟩
        · skip
          have hst := mi_row hI (i := x2.toInt) hpp2 ev1 ev3 (by omega)
          refine pe_iload (j := 4) (by decide +kernel) rfl ?_
          refine pe_aload_n (j := 0) (by decide +kernel) rfl ?_
          refine pe_get (j := 175) (ci := 12) (n := 14) (by decide +kernel) (by decide +kernel) (md_o hc) rfl ?_
          have lw60 := zi_lo v3
          have uw60 := zi_hi v3
          refine pz_icmp_ge (off := 12) (t := 162) (by decide +kernel) (by decide) rfl rfl rfl (fun h59 => ?_) (fun h59 => ?_)
          · skip
            refine pe_iconstv (n := 0) (v := 0) (by decide +kernel) (by decide +kernel) ?_
            exact pe_iret (by decide +kernel) rfl rfl ⟨f, A, 0, rfl, hI, (fun k n14 n15 => rfl), (fun k n152 n153 => rfl), (by omega), Or.inl ⟨rfl, (DI_refl hpp0 (by decide)), hpp1, trivial⟩⟩
          · skip
            refine pe_aload_n (j := 0) (by decide +kernel) rfl ?_
            refine pe_iload (j := 4) (by decide +kernel) rfl ?_
            refine pi_V (j := 190) (mj := 236) (by decide +kernel) (cll_V (args := [.int v3]) (n := 1) (by decide +kernel) rfl rfl (md_o hc) (by decide +kernel) (Nat.le_of_ble_eq_true rfl) (Nat.le_of_ble_eq_true rfl)) ?_
            show pmE pg X pg_tyl pg_cl (d + 3) 236 0 [.ref 147, .int v3] [] (md wc f A) _
            refine pe_aload_n (j := 0) (by decide +kernel) rfl ?_
            refine pe_get (j := 26) (ci := 12) (n := 13) (by decide +kernel) (by decide +kernel) (md_o hc) rfl ?_
            refine pe_bipushv (n := 10) (v := 10) (by decide +kernel) (by decide +kernel) ?_
            refine pe_iload_n (j := 1) (by decide +kernel) rfl ?_
            refine pz_mul (by decide +kernel) kz_10 rfl (by omega) (by omega) (fun z61 hz61 => ?_)
            refine pe_iconstv (n := 3) (v := 3) (by decide +kernel) (by decide +kernel) ?_
            refine pz_add (by decide +kernel) hz61 kz_3 (by omega) (by omega) (fun z62 hz62 => ?_)
            clear hz61
            refine pz_iald (by decide +kernel) (md_a153 hc) (mlen_153 hI) hz62 (by omega) (by omega) (fun v63 ev63 => ?_)
            clear hz62
            refine pe_iconstv (n := 1) (v := 1) (by decide +kernel) (by decide +kernel) ?_
            have lw65 := zi_lo v63
            have uw65 := zi_hi v63
            refine pz_icmp_ne (off := 7) (t := 19) (by decide +kernel) (by decide) rfl rfl kz_1 (fun h64 => ?_) (fun h64 => ?_)
            · skip
              refine pe_iconstv (n := 0) (v := 0) (by decide +kernel) (by decide +kernel) ?_
              refine pe_iret (by decide +kernel) rfl rfl ⟨rfl, rfl, ?_⟩
              show pmE pg X pg_tyl pg_cl (d + 4) 230 159 [.ref 147, .int x1, .int x2, .int v1, .int v3, pm_dead, pm_dead] [.int 0] (md wc f A) _
              refine pz_if_ne (off := 5) (t := 164) (by decide +kernel) (by decide) rfl kz_0 (fun h66 => by omega) (fun h66 => ?_)
              refine pe_iconstv (n := 0) (v := 0) (by decide +kernel) (by decide +kernel) ?_
              exact pe_iret (by decide +kernel) rfl rfl ⟨f, A, 0, rfl, hI, (fun k n14 n15 => rfl), (fun k n152 n153 => rfl), (by omega), Or.inl ⟨rfl, (DI_refl hpp0 (by decide)), hpp1, trivial⟩⟩
            · skip
              refine pe_iconstv (n := 1) (v := 1) (by decide +kernel) (by decide +kernel) ?_
              refine pe_goto (off := 4) (t := 20) (by decide +kernel) (by decide) rfl ?_
              refine pe_iret (by decide +kernel) rfl rfl ⟨rfl, rfl, ?_⟩
              show pmE pg X pg_tyl pg_cl (d + 4) 230 159 [.ref 147, .int x1, .int x2, .int v1, .int v3, pm_dead, pm_dead] [.int 1] (md wc f A) _
              refine pz_if_ne (off := 5) (t := 164) (by decide +kernel) (by decide) rfl kz_1 (fun h67 => ?_) (fun h67 => by omega)
              refine pe_aload_n (j := 0) (by decide +kernel) rfl ?_
              refine pe_iload (j := 4) (by decide +kernel) rfl ?_
              refine pz_callV (j := 196) (mj := 237) (by decide +kernel) (cll_V (args := [.int v3]) (n := 1) (by decide +kernel) rfl rfl (md_o hc) (by decide +kernel) (Nat.le_of_ble_eq_true rfl) (Nat.le_of_ble_eq_true rfl)) (NM_237 hc hI (by omega) hpp0 (hpp1 v3.toInt (by omega) (by omega))) (fun q68a q68b q68c q68d hqq68 => ?_)
              obtain ⟨A69, eq68, hIq68, hFq68, kq68⟩ := hqq68
              cases eq68
              refine ⟨rfl, rfl, ?_⟩
              obtain ⟨hp70, hp71, kq68⟩ := kq68
              show pmE pg X pg_tyl pg_cl (d + 4) 230 170 [.ref 147, .int x1, .int x2, .int v1, .int v3, pm_dead, pm_dead] [] (md wc f A69) _
              refine pe_goto (off := 33) (t := 203) (by decide +kernel) (by decide) rfl ?_
              refine pe_iconstv (n := 1) (v := 1) (by decide +kernel) (by decide +kernel) ?_
              exact pe_iret (by decide +kernel) rfl rfl ⟨f, A69, 1, rfl, hIq68, (fun k n14 n15 => rfl), (fun k n152 n153 => (hFq68 k n152 n153)), (by omega), Or.inr (⟨rfl, (DI_w hp70 (by first | exact Int.le_refl _ | exact (mpeo hI (by omega)).1) (by decide)), (RG_re hpp1 hp71), trivial⟩)⟩
      · skip
        have hrr := mi_rowR hI (i := x2.toInt) hpp2 ev1 ev3 (by omega)
        refine pe_aload_n (j := 0) (by decide +kernel) rfl ?_
        refine pe_iload_n (j := 1) (by decide +kernel) rfl ?_
        refine pe_iload_n (j := 2) (by decide +kernel) rfl ?_
        refine pz_callV (j := 202) (mj := 233) (by decide +kernel) (cll_V (args := [.int x2, .int x1]) (n := 2) (by decide +kernel) rfl rfl (md_o hc) (by decide +kernel) (Nat.le_of_ble_eq_true rfl) (Nat.le_of_ble_eq_true rfl)) (NM_233 hc hI (by omega) (by omega) (by omega) hpp0 hpp1 (by rw [(show fr (A 148) ((x2.toInt + 1)) = v3.toInt from congrArg Int32.toInt ev3.symm)]; exact hrr)) (fun q72a q72b q72c q72d hqq72 => ?_)
        obtain ⟨f73, A74, rq72, eq72, hIq72, hGq72, hFq72, hX0q72, kq72⟩ := hqq72
        cases eq72
        refine ⟨rfl, rfl, ?_⟩
        have hr_f73_14 := mf_14 hIq72
        rcases kq72 with kq72 | kq72
        · skip
          obtain ⟨erq72, kq72⟩ := kq72
          subst erq72
          obtain ⟨hp75, hp76, kq72⟩ := kq72
          show pmE pg X pg_tyl pg_cl (d + 4) 230 138 [.ref 147, .int x1, .int x2, .int v1, .int v3, pm_dead, pm_dead] [.int 1] (md wc f73 A74) _
          exact pe_iret (by decide +kernel) rfl rfl ⟨f73, A74, 1, rfl, hIq72, (fun k n14 n15 => (hGq72 k n14)), (fun k n152 n153 => (hFq72 k n152 n153)), (by omega), Or.inr (⟨rfl, (DI_w hp75 (by first | exact Int.le_refl _ | exact (mpeo hI (by omega)).1) (by decide)), hp76, trivial⟩)⟩
        · skip
          obtain ⟨erq72, kq72⟩ := kq72
          subst erq72
          obtain ⟨hp77, hp78, kq72⟩ := kq72
          show pmE pg X pg_tyl pg_cl (d + 4) 230 138 [.ref 147, .int x1, .int x2, .int v1, .int v3, pm_dead, pm_dead] [.int 0] (md wc f73 A74) _
          exact pe_iret (by decide +kernel) rfl rfl ⟨f73, A74, 0, rfl, hIq72, (fun k n14 n15 => (hGq72 k n14)), (fun k n152 n153 => (hFq72 k n152 n153)), (by omega), Or.inl ⟨rfl, (DI_w hp77 (by first | exact Int.le_refl _ | exact (mpeo hI (by omega)).1) (by decide)), hp78, trivial⟩⟩
    · skip
      refine pe_aload_n (j := 0) (by decide +kernel) rfl ?_
      refine pe_get (j := 7) (ci := 12) (n := 0) (by decide +kernel) (by decide +kernel) (md_o hc) rfl ?_
      refine pe_iload_n (j := 2) (by decide +kernel) rfl ?_
      refine pe_iconstv (n := 2) (v := 2) (by decide +kernel) (by decide +kernel) ?_
      refine pz_add (by decide +kernel) rfl kz_2 (by omega) (by omega) (fun z79 hz79 => ?_)
      refine pz_iald (by decide +kernel) (md_a148 hc) (mlen_148 hI) hz79 (by omega) (by omega) (fun v80 ev80 => ?_)
      clear hz79
      refine pe_istore (j := 5) (ls' := [.ref 147, .int x1, .int x2, .int v1, .int v3, .int v80, pm_dead]) (by decide +kernel) (Nat.le_of_ble_eq_true rfl) rfl ?_
      refine pe_aload_n (j := 0) (by decide +kernel) rfl ?_
      refine pe_get (j := 7) (ci := 12) (n := 0) (by decide +kernel) (by decide +kernel) (md_o hc) rfl ?_
      refine pe_iload_n (j := 2) (by decide +kernel) rfl ?_
      refine pe_iconstv (n := 3) (v := 3) (by decide +kernel) (by decide +kernel) ?_
      refine pz_add (by decide +kernel) rfl kz_3 (by omega) (by omega) (fun z81 hz81 => ?_)
      refine pz_iald (by decide +kernel) (md_a148 hc) (mlen_148 hI) hz81 (by omega) (by omega) (fun v82 ev82 => ?_)
      clear hz81
      refine pe_istore (j := 6) (ls' := [.ref 147, .int x1, .int x2, .int v1, .int v3, .int v80, .int v82]) (by decide +kernel) (Nat.le_of_ble_eq_true rfl) rfl ?_
      have hmo := mi_rowO hI (i := x2.toInt) hpp2 ev1 ev82 (by omega)
      refine pe_aload_n (j := 0) (by decide +kernel) rfl ?_
      refine pe_iload_n (j := 1) (by decide +kernel) rfl ?_
      refine pe_iload (j := 4) (by decide +kernel) rfl ?_
      refine pi_V (j := 166) (mj := 221) (by decide +kernel) (cll_V (args := [.int v3, .int x1]) (n := 2) (by decide +kernel) rfl rfl (md_o hc) (by decide +kernel) (Nat.le_of_ble_eq_true rfl) (Nat.le_of_ble_eq_true rfl)) ?_
      show pmE pg X pg_tyl pg_cl (d + 3) 221 0 [.ref 147, .int x1, .int v3] [] (md wc f A) _
      refine pe_iload_n (j := 2) (by decide +kernel) rfl ?_
      refine pe_iconstv (n := 0) (v := 0) (by decide +kernel) (by decide +kernel) ?_
      refine pe_aload_n (j := 0) (by decide +kernel) rfl ?_
      refine pe_get (j := 7) (ci := 12) (n := 0) (by decide +kernel) (by decide +kernel) (md_o hc) rfl ?_
      refine pe_iload_n (j := 1) (by decide +kernel) rfl ?_
      refine pz_iald (by decide +kernel) (md_a148 hc) (mlen_148 hI) rfl (by omega) (by omega) (fun v83 ev83 => ?_)
      have rv83 : 0 ≤ v83.toInt ∧ v83.toInt ≤ 9 := MT_people (mt_148 hI ev83 (by omega)) (by omega)
      refine pe_iconstv (n := 1) (v := 1) (by decide +kernel) (by decide +kernel) ?_
      refine pz_sub (by decide +kernel) rfl kz_1 (by omega) (by omega) (fun z84 hz84 => ?_)
      refine pi_S (j := 119) (mj := 199) (by decide +kernel) (by decide +kernel) rfl ?_
      show pmE pg X pg_tyl pg_cl (d + 2) 199 0 [.int v3, .int 0, .int z84] [] (md wc f A) _
      refine pe_iload_n (j := 0) (by decide +kernel) rfl ?_
      refine pe_iload_n (j := 1) (by decide +kernel) rfl ?_
      have lw86 := zi_lo v3
      have uw86 := zi_hi v3
      refine pz_icmp_lt (off := 12) (t := 14) (by decide +kernel) (by decide) rfl rfl kz_0 (fun h85 => ?_) (fun h85 => ?_)
      · skip
        refine pe_iconstv (n := 0) (v := 0) (by decide +kernel) (by decide +kernel) ?_
        refine pe_iret (by decide +kernel) rfl rfl ⟨rfl, rfl, ?_⟩
        show pmE pg X pg_tyl pg_cl (d + 3) 221 13 [.ref 147, .int x1, .int v3] [.int 0] (md wc f A) _
        refine pe_iret (by decide +kernel) rfl rfl ⟨rfl, rfl, ?_⟩
        show pmE pg X pg_tyl pg_cl (d + 4) 230 53 [.ref 147, .int x1, .int x2, .int v1, .int v3, .int v80, .int v82] [.int 0] (md wc f A) _
        refine pz_if_eq (off := 42) (t := 95) (by decide +kernel) (by decide) rfl kz_0 (fun h87 => ?_) (fun h87 => by omega)
        refine pe_iconstv (n := 0) (v := 0) (by decide +kernel) (by decide +kernel) ?_
        exact pe_iret (by decide +kernel) rfl rfl ⟨f, A, 0, rfl, hI, (fun k n14 n15 => rfl), (fun k n152 n153 => rfl), (by omega), Or.inl ⟨rfl, (DI_refl hpp0 (by decide)), hpp1, trivial⟩⟩
      · skip
        refine pe_iload_n (j := 0) (by decide +kernel) rfl ?_
        refine pe_iload_n (j := 2) (by decide +kernel) rfl ?_
        refine pz_icmp_gt (off := 7) (t := 14) (by decide +kernel) (by decide) rfl rfl hz84 (fun h88 => ?_) (fun h88 => ?_)
        · skip
          refine pe_iconstv (n := 0) (v := 0) (by decide +kernel) (by decide +kernel) ?_
          refine pe_iret (by decide +kernel) rfl rfl ⟨rfl, rfl, ?_⟩
          show pmE pg X pg_tyl pg_cl (d + 3) 221 13 [.ref 147, .int x1, .int v3] [.int 0] (md wc f A) _
          refine pe_iret (by decide +kernel) rfl rfl ⟨rfl, rfl, ?_⟩
          show pmE pg X pg_tyl pg_cl (d + 4) 230 53 [.ref 147, .int x1, .int x2, .int v1, .int v3, .int v80, .int v82] [.int 0] (md wc f A) _
          refine pz_if_eq (off := 42) (t := 95) (by decide +kernel) (by decide) rfl kz_0 (fun h89 => ?_) (fun h89 => by omega)
          refine pe_iconstv (n := 0) (v := 0) (by decide +kernel) (by decide +kernel) ?_
          exact pe_iret (by decide +kernel) rfl rfl ⟨f, A, 0, rfl, hI, (fun k n14 n15 => rfl), (fun k n152 n153 => rfl), (by omega), Or.inl ⟨rfl, (DI_refl hpp0 (by decide)), hpp1, trivial⟩⟩
        · skip
          refine pe_iconstv (n := 1) (v := 1) (by decide +kernel) (by decide +kernel) ?_
          refine pe_goto (off := 4) (t := 15) (by decide +kernel) (by decide) rfl ?_
          refine pe_iret (by decide +kernel) rfl rfl ⟨rfl, rfl, ?_⟩
          show pmE pg X pg_tyl pg_cl (d + 3) 221 13 [.ref 147, .int x1, .int v3] [.int 1] (md wc f A) _
          refine pe_iret (by decide +kernel) rfl rfl ⟨rfl, rfl, ?_⟩
          show pmE pg X pg_tyl pg_cl (d + 4) 230 53 [.ref 147, .int x1, .int x2, .int v1, .int v3, .int v80, .int v82] [.int 1] (md wc f A) _
          refine pz_if_eq (off := 42) (t := 95) (by decide +kernel) (by decide) rfl kz_1 (fun h90 => by omega) (fun h90 => ?_)
          refine pe_aload_n (j := 0) (by decide +kernel) rfl ?_
          refine pe_iload_n (j := 1) (by decide +kernel) rfl ?_
          refine pe_iload (j := 5) (by decide +kernel) rfl ?_
          refine pi_V (j := 166) (mj := 221) (by decide +kernel) (cll_V (args := [.int v80, .int x1]) (n := 2) (by decide +kernel) rfl rfl (md_o hc) (by decide +kernel) (Nat.le_of_ble_eq_true rfl) (Nat.le_of_ble_eq_true rfl)) ?_
          show pmE pg X pg_tyl pg_cl (d + 3) 221 0 [.ref 147, .int x1, .int v80] [] (md wc f A) _
          refine pe_iload_n (j := 2) (by decide +kernel) rfl ?_
          refine pe_iconstv (n := 0) (v := 0) (by decide +kernel) (by decide +kernel) ?_
          refine pe_aload_n (j := 0) (by decide +kernel) rfl ?_
          refine pe_get (j := 7) (ci := 12) (n := 0) (by decide +kernel) (by decide +kernel) (md_o hc) rfl ?_
          refine pe_iload_n (j := 1) (by decide +kernel) rfl ?_
          refine pz_iald (by decide +kernel) (md_a148 hc) (mlen_148 hI) rfl (by omega) (by omega) (fun v91 ev91 => ?_)
          rw [ev91.trans ev83.symm]
          clear ev91 v91
          refine pe_iconstv (n := 1) (v := 1) (by decide +kernel) (by decide +kernel) ?_
          refine pz_sub (by decide +kernel) rfl kz_1 (by omega) (by omega) (fun z92 hz92 => ?_)
          refine pi_S (j := 119) (mj := 199) (by decide +kernel) (by decide +kernel) rfl ?_
          show pmE pg X pg_tyl pg_cl (d + 2) 199 0 [.int v80, .int 0, .int z92] [] (md wc f A) _
          refine pe_iload_n (j := 0) (by decide +kernel) rfl ?_
          refine pe_iload_n (j := 1) (by decide +kernel) rfl ?_
          have lw94 := zi_lo v80
          have uw94 := zi_hi v80
          refine pz_icmp_lt (off := 12) (t := 14) (by decide +kernel) (by decide) rfl rfl kz_0 (fun h93 => ?_) (fun h93 => ?_)
          · skip
            refine pe_iconstv (n := 0) (v := 0) (by decide +kernel) (by decide +kernel) ?_
            refine pe_iret (by decide +kernel) rfl rfl ⟨rfl, rfl, ?_⟩
            show pmE pg X pg_tyl pg_cl (d + 3) 221 13 [.ref 147, .int x1, .int v80] [.int 0] (md wc f A) _
            refine pe_iret (by decide +kernel) rfl rfl ⟨rfl, rfl, ?_⟩
            show pmE pg X pg_tyl pg_cl (d + 4) 230 63 [.ref 147, .int x1, .int x2, .int v1, .int v3, .int v80, .int v82] [.int 0] (md wc f A) _
            refine pz_if_eq (off := 32) (t := 95) (by decide +kernel) (by decide) rfl kz_0 (fun h95 => ?_) (fun h95 => by omega)
            refine pe_iconstv (n := 0) (v := 0) (by decide +kernel) (by decide +kernel) ?_
            exact pe_iret (by decide +kernel) rfl rfl ⟨f, A, 0, rfl, hI, (fun k n14 n15 => rfl), (fun k n152 n153 => rfl), (by omega), Or.inl ⟨rfl, (DI_refl hpp0 (by decide)), hpp1, trivial⟩⟩
          · skip
            refine pe_iload_n (j := 0) (by decide +kernel) rfl ?_
            refine pe_iload_n (j := 2) (by decide +kernel) rfl ?_
            refine pz_icmp_gt (off := 7) (t := 14) (by decide +kernel) (by decide) rfl rfl hz92 (fun h96 => ?_) (fun h96 => ?_)
            · skip
              refine pe_iconstv (n := 0) (v := 0) (by decide +kernel) (by decide +kernel) ?_
              refine pe_iret (by decide +kernel) rfl rfl ⟨rfl, rfl, ?_⟩
              show pmE pg X pg_tyl pg_cl (d + 3) 221 13 [.ref 147, .int x1, .int v80] [.int 0] (md wc f A) _
              refine pe_iret (by decide +kernel) rfl rfl ⟨rfl, rfl, ?_⟩
              show pmE pg X pg_tyl pg_cl (d + 4) 230 63 [.ref 147, .int x1, .int x2, .int v1, .int v3, .int v80, .int v82] [.int 0] (md wc f A) _
              refine pz_if_eq (off := 32) (t := 95) (by decide +kernel) (by decide) rfl kz_0 (fun h97 => ?_) (fun h97 => by omega)
              refine pe_iconstv (n := 0) (v := 0) (by decide +kernel) (by decide +kernel) ?_
              exact pe_iret (by decide +kernel) rfl rfl ⟨f, A, 0, rfl, hI, (fun k n14 n15 => rfl), (fun k n152 n153 => rfl), (by omega), Or.inl ⟨rfl, (DI_refl hpp0 (by decide)), hpp1, trivial⟩⟩
            · skip
              refine pe_iconstv (n := 1) (v := 1) (by decide +kernel) (by decide +kernel) ?_
              refine pe_goto (off := 4) (t := 15) (by decide +kernel) (by decide) rfl ?_
              refine pe_iret (by decide +kernel) rfl rfl ⟨rfl, rfl, ?_⟩
              show pmE pg X pg_tyl pg_cl (d + 3) 221 13 [.ref 147, .int x1, .int v80] [.int 1] (md wc f A) _
              refine pe_iret (by decide +kernel) rfl rfl ⟨rfl, rfl, ?_⟩
              show pmE pg X pg_tyl pg_cl (d + 4) 230 63 [.ref 147, .int x1, .int x2, .int v1, .int v3, .int v80, .int v82] [.int 1] (md wc f A) _
              refine pz_if_eq (off := 32) (t := 95) (by decide +kernel) (by decide) rfl kz_1 (fun h98 => by omega) (fun h98 => ?_)
              refine pe_iload_n (j := 3) (by decide +kernel) rfl ?_
              refine pz_if_ne (off := 15) (t := 82) (by decide +kernel) (by decide) rfl rfl (fun h99 => ?_) (fun h99 => by omega)
              refine pe_aload_n (j := 0) (by decide +kernel) rfl ?_
              refine pe_iload (j := 4) (by decide +kernel) rfl ?_
              refine pe_iload (j := 5) (by decide +kernel) rfl ?_
              refine pi_V (j := 181) (mj := 232) (by decide +kernel) (cll_V (args := [.int v80, .int v3]) (n := 2) (by decide +kernel) rfl rfl (md_o hc) (by decide +kernel) (Nat.le_of_ble_eq_true rfl) (Nat.le_of_ble_eq_true rfl)) ?_
              show pmE pg X pg_tyl pg_cl (d + 3) 232 0 [.ref 147, .int v3, .int v80] [] (md wc f A) _
              refine pe_aload_n (j := 0) (by decide +kernel) rfl ?_
              refine pe_get (j := 23) (ci := 12) (n := 12) (by decide +kernel) (by decide +kernel) (md_o hc) rfl ?_
              refine pe_bipushv (n := 9) (v := 9) (by decide +kernel) (by decide +kernel) ?_
              refine pe_iload_n (j := 1) (by decide +kernel) rfl ?_
              refine pz_mul (by decide +kernel) kz_9 rfl (by omega) (by omega) (fun z100 hz100 => ?_)
              refine pe_iload_n (j := 2) (by decide +kernel) rfl ?_
              refine pz_add (by decide +kernel) hz100 rfl (by omega) (by omega) (fun z101 hz101 => ?_)
              clear hz100
              refine pz_iald (by decide +kernel) (md_a152 hc) (mlen_152 hI) hz101 (by omega) (by omega) (fun v102 ev102 => ?_)
              clear hz101
              refine pe_iret (by decide +kernel) rfl rfl ⟨rfl, rfl, ?_⟩
              show pmE pg X pg_tyl pg_cl (d + 4) 230 90 [.ref 147, .int x1, .int x2, .int v1, .int v3, .int v80, .int v82] [.int v102] (md wc f A) _
              refine pe_iload (j := 6) (by decide +kernel) rfl ?_
              have lw104 := zi_lo v102
              have uw104 := zi_hi v102
              refine pz_icmp_ge (off := 5) (t := 97) (by decide +kernel) (by decide) rfl rfl rfl (fun h103 => ?_) (fun h103 => ?_)
              · skip
                refine pe_aload_n (j := 0) (by decide +kernel) rfl ?_
                refine pe_get (j := 23) (ci := 12) (n := 12) (by decide +kernel) (by decide +kernel) (md_o hc) rfl ?_
                refine pe_bipushv (n := 9) (v := 9) (by decide +kernel) (by decide +kernel) ?_
                refine pe_iload (j := 4) (by decide +kernel) rfl ?_
                refine pz_mul (by decide +kernel) kz_9 rfl (by omega) (by omega) (fun z105 hz105 => ?_)
                refine pe_iload (j := 5) (by decide +kernel) rfl ?_
                refine pz_add (by decide +kernel) hz105 rfl (by omega) (by omega) (fun z106 hz106 => ?_)
                clear hz105
                refine pe_dup2 (by decide +kernel) ⟨rfl, rfl⟩ ?_
                refine pz_iald (by decide +kernel) (md_a152 hc) (mlen_152 hI) hz106 (by omega) (by omega) (fun v107 ev107 => ?_)
                rw [ev107.trans ev102.symm]
                clear ev107 v107
                have hb108 := hpp0 (((9 * v3.toInt) + v80.toInt)) (by omega) (by omega)
                rw [(show fr (A 152) (((9 * v3.toInt) + v80.toInt)) = v102.toInt from congrArg Int32.toInt ev102.symm)] at hb108
                refine pe_iload_n (j := 3) (by decide +kernel) rfl ?_
                refine pz_if_ne (off := 8) (t := 120) (by decide +kernel) (by decide) rfl rfl (fun h109 => ?_) (fun h109 => by omega)
                refine pe_iload (j := 6) (by decide +kernel) rfl ?_
                refine pz_neg (by decide +kernel) rfl (by omega) (by omega) (fun z110 hz110 => ?_)
                refine pz_add (by decide +kernel) rfl hz110 (by omega) (by omega) (fun z111 hz111 => ?_)
                clear hz110
                refine mz_st152 (by decide +kernel) hc hI hz106 (by omega) (by omega) (fun A112 eA112 hIA112 => ?_)
                refine pe_iconstv (n := 1) (v := 1) (by decide +kernel) (by decide +kernel) ?_
                exact pe_iret (by decide +kernel) rfl rfl ⟨f, A112, 1, rfl, hIA112, (fun k n14 n15 => rfl), (fun k n152 n153 => upa_fr eA112 n152), (by omega), Or.inr (⟨rfl, (by rw [upa_at eA112, (show fr (A 148) (x1.toInt) = v83.toInt from congrArg Int32.toInt ev83.symm)]; exact DI_up (DI_set (i := ((9 * v3.toInt) + v80.toInt)) (n := 99) (DI_refl (m := 0) hpp0 (by decide)) (by omega) (by omega) (mlen_152 hI) (by omega) (by rw [(show fr (A 152) (((9 * v3.toInt) + v80.toInt)) = v102.toInt from congrArg Int32.toInt ev102.symm)]; omega) (by decide) (fun h => absurd h (by omega))) (by decide)), (by rw [upa_fr eA112 (by decide : (153 : Nat) ≠ 152)]; exact hpp1), trivial⟩)⟩
              · skip
                refine pe_iconstv (n := 0) (v := 0) (by decide +kernel) (by decide +kernel) ?_
                exact pe_iret (by decide +kernel) rfl rfl ⟨f, A, 0, rfl, hI, (fun k n14 n15 => rfl), (fun k n152 n153 => rfl), (by omega), Or.inl ⟨rfl, (DI_refl hpp0 (by decide)), hpp1, trivial⟩⟩
end
section
set_option maxRecDepth 100000 in
set_option maxHeartbeats 8000000 in
theorem NL_228_12 {X : pm_X} {d : Nat} {wc : pm_W} {Q : pm_R → Prop} {f0 : Nat → Int32} {A0 : Nat → List Int32} {x1 x2 x3 : Int32} (hc : wc.length = 147) (gx1 : (610 ≤ x1.toInt ∧ x1.toInt ≤ 742 ∧ (x1.toInt - 610) % 132 = 0)) (gx2 : (0 ≤ x2.toInt ∧ x2.toInt ≤ 2)) (k_81_0 : ∀ (f' : Nat → Int32) (A' : Nat → List Int32) (y4 : Int32), MI f' A' → (∀ k : Nat, k ≠ 14 → k ≠ 15 → k ≠ 16 → f' k = f0 k) → (∀ k : Nat, k ≠ 152 → k ≠ 153 → A' k = A0 k) → (0 ≤ y4.toInt ∧ y4.toInt ≤ 30) → DF (A' 152) (fr (A0 148) x1.toInt) 17820 → pmE pg X pg_tyl pg_cl (d + 5) 228 81 [.ref 147, .int x1, .int x2, .int x3, .int y4] [] (md wc f' A') Q) : ∀ (m : Nat) (f : Nat → Int32) (A : Nat → List Int32) (x4 : Int32), MI f A → (∀ k : Nat, k ≠ 14 → k ≠ 15 → k ≠ 16 → f k = f0 k) → (∀ k : Nat, k ≠ 152 → k ≠ 153 → A k = A0 k) → (0 ≤ x4.toInt ∧ x4.toInt ≤ 30) → ((f 14).toInt + (-1) * x4.toInt) ≤ 0 → DF (A 152) (fr (A0 148) x1.toInt) (594 * x4.toInt) → RG (A 153) (f 14).toInt → 30 - x4.toInt < (m : Int) → pmE pg X pg_tyl pg_cl (d + 5) 228 12 [.ref 147, .int x1, .int x2, .int x3, .int x4] [] (md wc f A) Q := by
  intro m
  induction m with
  | zero =>
    intro f A x4 hI hG hF gx4 hxi0 hpi0 hpi1 hm
    exfalso
    have l0 := zi_lo x4
    have u0 := zi_hi x4
    omega
  | succ m ih =>
    intro f A x4 hI hG hF gx4 hxi0 hpi0 hpi1 hm
    have hr_f_14 := mf_14 hI
    refine pe_iload (j := 4) (by decide +kernel) rfl ?_
    refine pe_iload_n (j := 3) (by decide +kernel) rfl ?_
    have lw2 := zi_lo x3
    have uw2 := zi_hi x3
    refine pz_icmp_ge (off := 66) (t := 81) (by decide +kernel) (by decide) rfl rfl rfl (fun h1 => ?_) (fun h1 => ?_)
    · skip
      exact k_81_0 f A x4 hI (fun k n14 n15 n16 => (hG k n14 n15 n16)) (fun k n152 n153 => (hF k n152 n153)) (by omega) (DF_up hpi0 (by omega))
    · skip
      refine pe_iload (j := 4) (by decide +kernel) rfl ?_
      refine pe_aload_n (j := 0) (by decide +kernel) rfl ?_
      refine pe_get (j := 7) (ci := 12) (n := 0) (by decide +kernel) (by decide +kernel) (md_o hc) rfl ?_
      refine pe_iconstv (n := 1) (v := 1) (by decide +kernel) (by decide +kernel) ?_
      refine pe_iload_n (j := 2) (by decide +kernel) rfl ?_
      refine pi_S (j := 163) (mj := 217) (by decide +kernel) (by decide +kernel) rfl ?_
      show pmE pg X pg_tyl pg_cl (d + 4) 217 0 [.int 1, .int x2] [] (md wc f A) _
      refine pe_iload_n (j := 0) (by decide +kernel) rfl ?_
      refine pz_if_ne (off := 15) (t := 16) (by decide +kernel) (by decide) rfl kz_1 (fun h3 => ?_) (fun h3 => by omega)
      refine pe_sipushv (n := 874) (v := 874) (by decide +kernel) (by decide +kernel) ?_
      refine pe_sipushv (n := 272) (v := 272) (by decide +kernel) (by decide +kernel) ?_
      refine pe_iload_n (j := 1) (by decide +kernel) rfl ?_
      refine pz_mul (by decide +kernel) kz_272 rfl (by omega) (by omega) (fun z4 hz4 => ?_)
      refine pz_add (by decide +kernel) kz_874 hz4 (by omega) (by omega) (fun z5 hz5 => ?_)
      clear hz4
      refine pe_iret (by decide +kernel) rfl rfl ⟨rfl, rfl, ?_⟩
      show pmE pg X pg_tyl pg_cl (d + 5) 228 29 [.ref 147, .int x1, .int x2, .int x3, .int x4] [.int z5, .ref 148, .int x4] (md wc f A) _
      refine pz_iald (by decide +kernel) (md_a148 hc) (mlen_148 hI) hz5 (by omega) (by omega) (fun v6 ev6 => ?_)
      have rv6 : 0 ≤ v6.toInt ∧ v6.toInt ≤ 30 := MT_acts (mt_148 hI ev6 (by omega)) (by omega)
      rw [show A 148 = A0 148 from (hF 148 (by decide) (by decide))] at ev6
      clear hz5
      refine pz_icmp_ge (off := 51) (t := 81) (by decide +kernel) (by decide) rfl rfl rfl (fun h7 => ?_) (fun h7 => ?_)
      · skip
        exact k_81_0 f A x4 hI (fun k n14 n15 n16 => (hG k n14 n15 n16)) (fun k n152 n153 => (hF k n152 n153)) (by omega) (DF_up hpi0 (by omega))
      · skip
        refine pe_aload_n (j := 0) (by decide +kernel) rfl ?_
        refine pe_iload_n (j := 1) (by decide +kernel) rfl ?_
        refine pe_iconstv (n := 1) (v := 1) (by decide +kernel) (by decide +kernel) ?_
        refine pe_iload_n (j := 2) (by decide +kernel) rfl ?_
        refine pi_S (j := 163) (mj := 217) (by decide +kernel) (by decide +kernel) rfl ?_
        show pmE pg X pg_tyl pg_cl (d + 4) 217 0 [.int 1, .int x2] [] (md wc f A) _
        refine pe_iload_n (j := 0) (by decide +kernel) rfl ?_
        refine pz_if_ne (off := 15) (t := 16) (by decide +kernel) (by decide) rfl kz_1 (fun h8 => ?_) (fun h8 => by omega)
        refine pe_sipushv (n := 874) (v := 874) (by decide +kernel) (by decide +kernel) ?_
        refine pe_sipushv (n := 272) (v := 272) (by decide +kernel) (by decide +kernel) ?_
        refine pe_iload_n (j := 1) (by decide +kernel) rfl ?_
        refine pz_mul (by decide +kernel) kz_272 rfl (by omega) (by omega) (fun z9 hz9 => ?_)
        refine pz_add (by decide +kernel) kz_874 hz9 (by omega) (by omega) (fun z10 hz10 => ?_)
        clear hz9
        refine pe_iret (by decide +kernel) rfl rfl ⟨rfl, rfl, ?_⟩
        show pmE pg X pg_tyl pg_cl (d + 5) 228 40 [.ref 147, .int x1, .int x2, .int x3, .int x4] [.int z10, .int x1, .ref 147] (md wc f A) _
        refine pe_iconstv (n := 1) (v := 1) (by decide +kernel) (by decide +kernel) ?_
        refine pz_add (by decide +kernel) hz10 kz_1 (by omega) (by omega) (fun z11 hz11 => ?_)
        clear hz10
        refine pe_bipushv (n := 9) (v := 9) (by decide +kernel) (by decide +kernel) ?_
        refine pe_iload (j := 4) (by decide +kernel) rfl ?_
        refine pz_mul (by decide +kernel) kz_9 rfl (by omega) (by omega) (fun z12 hz12 => ?_)
        refine pz_add (by decide +kernel) hz11 hz12 (by omega) (by omega) (fun z13 hz13 => ?_)
        clear hz11 hz12
        refine pz_callV (j := 220) (mj := 230) (by decide +kernel) (cll_V (args := [.int z13, .int x1]) (n := 2) (by decide +kernel) rfl rfl (md_o hc) (by decide +kernel) (Nat.le_of_ble_eq_true rfl) (Nat.le_of_ble_eq_true rfl)) (NM_230 hc hI (by omega) (by omega) (by omega) (DF_n0 hpi0 (by omega)) hpi1 ⟨x2.toInt, x4.toInt, by omega⟩) (fun q14a q14b q14c q14d hqq14 => ?_)
        obtain ⟨f15, A16, rq14, eq14, hIq14, hGq14, hFq14, hX0q14, kq14⟩ := hqq14
        cases eq14
        refine ⟨rfl, rfl, ?_⟩
        have hr_f15_14 := mf_14 hIq14
        rcases kq14 with kq14 | kq14
        · skip
          obtain ⟨erq14, kq14⟩ := kq14
          subst erq14
          obtain ⟨hp17, hp18, kq14⟩ := kq14
          show pmE pg X pg_tyl pg_cl (d + 5) 228 51 [.ref 147, .int x1, .int x2, .int x3, .int x4] [.int 0] (md wc f15 A16) _
          refine pz_if_eq (off := 30) (t := 81) (by decide +kernel) (by decide) rfl kz_0 (fun h19 => ?_) (fun h19 => by omega)
          exact k_81_0 f15 A16 x4 hIq14 (fun k n14 n15 n16 => ((hGq14 k n14 n15)).trans ((hG k n14 n15 n16))) (fun k n152 n153 => ((hFq14 k n152 n153)).trans ((hF k n152 n153))) (by omega) (DF_up (DF_step hpi0 (by rw [show A0 148 = A 148 from (hF 148 (by decide) (by decide)).symm]; exact hp17)) (by omega))
        · skip
          obtain ⟨erq14, kq14⟩ := kq14
          subst erq14
          obtain ⟨hp20, hp21, kq14⟩ := kq14
          show pmE pg X pg_tyl pg_cl (d + 5) 228 51 [.ref 147, .int x1, .int x2, .int x3, .int x4] [.int 1] (md wc f15 A16) _
          refine pz_if_eq (off := 30) (t := 81) (by decide +kernel) (by decide) rfl kz_1 (fun h22 => by omega) (fun h22 => ?_)
          refine pe_aload_n (j := 0) (by decide +kernel) rfl ?_
          refine pe_get (j := 217) (ci := 12) (n := 16) (by decide +kernel) (by decide +kernel) (md_o hc) rfl ?_
          refine pe_top (v := (f 16)) ((hGq14 16 (by decide) (by decide))) ?_
          have lw24 := zi_lo (f 16)
          have uw24 := zi_hi (f 16)
          refine pz_if_ge (off := 17) (t := 75) (by decide +kernel) (by decide) rfl rfl (fun h23 => ?_) (fun h23 => ?_)
          · skip
            refine pz_iinc (j := 4) (n := 1) (by decide +kernel) rfl rfl (by decide +kernel) (by omega) (by omega) (fun z25 hz25 => ?_)
            show pmE pg X pg_tyl pg_cl (d + 5) 228 78 [.ref 147, .int x1, .int x2, .int x3, .int z25] [] (md wc f15 A16) _
            refine pe_goto (off := (-66)) (t := 12) (by decide +kernel) (by decide) rfl ?_
            exact ih f15 A16 z25 hIq14 (fun k n14 n15 n16 => ((hGq14 k n14 n15)).trans ((hG k n14 n15 n16))) (fun k n152 n153 => ((hFq14 k n152 n153)).trans ((hF k n152 n153))) (by omega) (by omega) (by rw [hz25]; exact DF_step hpi0 (by rw [show A0 148 = A 148 from (hF 148 (by decide) (by decide)).symm]; exact hp20)) hp21 (by omega)
          · skip
            refine pe_aload_n (j := 0) (by decide +kernel) rfl ?_
            refine pe_iload_n (j := 1) (by decide +kernel) rfl ?_
            refine pz_callV (j := 223) (mj := 241) (by decide +kernel) (cll_V (args := [.int x1]) (n := 1) (by decide +kernel) rfl rfl (md_o hc) (by decide +kernel) (Nat.le_of_ble_eq_true rfl) (Nat.le_of_ble_eq_true rfl)) (MM_241 hc hIq14 (by omega)) (fun q27a q27b q27c q27d hqq27 => ?_)
            obtain ⟨rq27, eq27, kq27⟩ := hqq27
            cases eq27
            refine ⟨rfl, rfl, ?_⟩
            show pmE pg X pg_tyl pg_cl (d + 5) 228 66 [.ref 147, .int x1, .int x2, .int x3, .int x4] [.int rq27] (md wc f15 A16) _
            refine pz_if_ne (off := 9) (t := 75) (by decide +kernel) (by decide) rfl rfl (fun h28 => ?_) (fun h28 => ?_)
            · skip
              refine pz_iinc (j := 4) (n := 1) (by decide +kernel) rfl rfl (by decide +kernel) (by omega) (by omega) (fun z29 hz29 => ?_)
              show pmE pg X pg_tyl pg_cl (d + 5) 228 78 [.ref 147, .int x1, .int x2, .int x3, .int z29] [] (md wc f15 A16) _
              refine pe_goto (off := (-66)) (t := 12) (by decide +kernel) (by decide) rfl ?_
              exact ih f15 A16 z29 hIq14 (fun k n14 n15 n16 => ((hGq14 k n14 n15)).trans ((hG k n14 n15 n16))) (fun k n152 n153 => ((hFq14 k n152 n153)).trans ((hF k n152 n153))) (by omega) (by omega) (by rw [hz29]; exact DF_step hpi0 (by rw [show A0 148 = A 148 from (hF 148 (by decide) (by decide)).symm]; exact hp20)) hp21 (by omega)
            · skip
              refine pe_aload_n (j := 0) (by decide +kernel) rfl ?_
              refine pe_iload (j := 4) (by decide +kernel) rfl ?_
              refine mz_put16 (jj := 217) (by decide +kernel) (by decide +kernel) hc hIq14 (fun f31 ef31 hIf31 => ?_)
              refine pz_iinc (j := 4) (n := 1) (by decide +kernel) rfl rfl (by decide +kernel) (by omega) (by omega) (fun z32 hz32 => ?_)
              show pmE pg X pg_tyl pg_cl (d + 5) 228 78 [.ref 147, .int x1, .int x2, .int x3, .int z32] [] (md wc f31 A16) _
              refine pe_goto (off := (-66)) (t := 12) (by decide +kernel) (by decide) rfl ?_
              have hx33 : (f31 14).toInt = (f15 14).toInt := (congrArg Int32.toInt (show f31 14 = (f15 14) from upf_fr ef31 (by decide))).trans rfl
              exact ih f31 A16 z32 hIf31 (fun k n14 n15 n16 => (upf_fr ef31 n16).trans (((hGq14 k n14 n15)).trans ((hG k n14 n15 n16)))) (fun k n152 n153 => ((hFq14 k n152 n153)).trans ((hF k n152 n153))) (by omega) (by omega) (by rw [hz32]; exact DF_step hpi0 (by rw [show A0 148 = A 148 from (hF 148 (by decide) (by decide)).symm]; exact hp20)) (by rw [show f31 14 = f15 14 from upf_fr ef31 (by decide)]; exact hp21) (by omega)
set_option maxRecDepth 100000 in
set_option maxHeartbeats 8000000 in
theorem NM_228 {X : pm_X} {d : Nat} {wc : pm_W} {f : Nat → Int32} {A : Nat → List Int32} {x1 x2 x3 : Int32} (hc : wc.length = 147) (hI : MI f A) (gx1 : (610 ≤ x1.toInt ∧ x1.toInt ≤ 742 ∧ (x1.toInt - 610) % 132 = 0)) (gx2 : (0 ≤ x2.toInt ∧ x2.toInt ≤ 2)) : pmE pg X pg_tyl pg_cl (d + 5) 228 0 (pm_ent (pm_max pg 228) [.ref 147, .int x1, .int x2, .int x3]) [] (md wc f A) (fun q => ∃ (f' : Nat → Int32) (A' : Nat → List Int32) (r : Int32), q = (some (.int r), md wc f' A', 0, 0) ∧ MI f' A' ∧ (∀ k : Nat, k ≠ 14 → k ≠ 15 → k ≠ 16 → f' k = f k) ∧ (∀ k : Nat, k ≠ 152 → k ≠ 153 → A' k = A k) ∧ (((0 ≤ r.toInt ∧ r.toInt ≤ 30) ∧ DF (A' 152) (fr (A 148) x1.toInt) 17820 ∧ True))) := by
  show pmE pg X pg_tyl pg_cl (d + 5) 228 0 [.ref 147, .int x1, .int x2, .int x3, pm_dead] [] (md wc f A) _
  refine pe_aload_n (j := 0) (by decide +kernel) rfl ?_
  refine pz_callV (j := 214) (mj := 229) (by decide +kernel) (cll_V (args := []) (n := 0) (by decide +kernel) rfl rfl (md_o hc) (by decide +kernel) (Nat.le_of_ble_eq_true rfl) (Nat.le_of_ble_eq_true rfl)) (NM_229 hc hI) (fun q1a q1b q1c q1d hqq1 => ?_)
  obtain ⟨f2, A3, eq1, hIq1, hGq1, hFq1, hX0q1, kq1⟩ := hqq1
  cases eq1
  refine ⟨rfl, rfl, ?_⟩
  have hr_f2_14 := mf_14 hIq1
  obtain ⟨hq4, kq1⟩ := kq1
  show pmE pg X pg_tyl pg_cl (d + 5) 228 4 [.ref 147, .int x1, .int x2, .int x3, pm_dead] [] (md wc f2 A3) _
  refine pe_aload_n (j := 0) (by decide +kernel) rfl ?_
  refine pe_iconstv (n := (-1)) (v := (-1)) (by decide +kernel) (by decide +kernel) ?_
  refine mz_put16 (jj := 217) (by decide +kernel) (by decide +kernel) hc hIq1 (fun f5 ef5 hIf5 => ?_)
  refine pe_iconstv (n := 0) (v := 0) (by decide +kernel) (by decide +kernel) ?_
  refine pe_istore (j := 4) (ls' := [.ref 147, .int x1, .int x2, .int x3, .int 0]) (by decide +kernel) (Nat.le_of_ble_eq_true rfl) rfl ?_
  have hx11 : (f5 14).toInt = (f2 14).toInt := (congrArg Int32.toInt (show f5 14 = (f2 14) from upf_fr ef5 (by decide))).trans rfl
  have hl12 := kz_0
  have hx14 : (f5 14).toInt = (f2 14).toInt := (congrArg Int32.toInt (show f5 14 = (f2 14) from upf_fr ef5 (by decide))).trans rfl
  refine NL_228_12 hc (by omega) (by omega) (fun f6 A7 y8 hIy9 hGf6 hFA7 gy8 hp10 => ?_) 31 f5 A3 0 hIf5 (fun k _ _ _ => rfl) (fun k _ _ => rfl) (by decide +kernel) (by omega) (DF_zero hq4 (by rw [kz_0]; decide)) (RG_zero (by omega)) (by decide +kernel)
  refine pe_iload (j := 4) (by decide +kernel) rfl ?_
  exact pe_iret (by decide +kernel) rfl rfl ⟨f6, A7, y8, rfl, hIy9, (fun k n14 n15 n16 => ((hGf6 k n14 n15 n16)).trans ((upf_fr ef5 n16).trans ((hGq1 k n14 n15)))), (fun k n152 n153 => ((hFA7 k n152 n153)).trans ((hFq1 k n152))), ⟨(by omega), (by have h := hp10; rw [show A3 148 = A 148 from (hFq1 148 (by decide))] at h; exact h), trivial⟩⟩
set_option maxRecDepth 100000 in
set_option maxHeartbeats 8000000 in
theorem NM_246 {X : pm_X} {d : Nat} {wc : pm_W} {f : Nat → Int32} {A : Nat → List Int32} {x1 x2 x3 : Int32} (hc : wc.length = 147) (hI : MI f A) : pmE pg X pg_tyl pg_cl (d + 6) 246 0 (pm_ent (pm_max pg 246) [.ref 147, .int x1, .int x2, .int x3]) [] (md wc f A) (fun q => ∃ (f' : Nat → Int32) (A' : Nat → List Int32) (r : Int32), q = (some (.int r), md wc f' A', 0, 0) ∧ MI f' A' ∧ (∀ k : Nat, k ≠ 14 → k ≠ 15 → k ≠ 16 → f' k = f k) ∧ (∀ k : Nat, k ≠ 152 → k ≠ 153 → A' k = A k) ∧ ((r = 0 ∧ True) ∨ (r = 1 ∧ DF (A' 152) (fr (A 148) (610 + 132 * x1.toInt)) 17820 ∧ (0 ≤ x1.toInt ∧ x1.toInt ≤ 1) ∧ ((-1) ≤ x2.toInt ∧ x2.toInt ≤ 2) ∧ (0 ≤ x3.toInt ∧ x3.toInt ≤ 30)))) := by
  show pmE pg X pg_tyl pg_cl (d + 6) 246 0 [.ref 147, .int x1, .int x2, .int x3] [] (md wc f A) _
  refine pe_aload_n (j := 0) (by decide +kernel) rfl ?_
  refine pe_iconstv (n := 0) (v := 0) (by decide +kernel) (by decide +kernel) ?_
  refine pe_iload_n (j := 1) (by decide +kernel) rfl ?_
  refine pi_V (j := 153) (mj := 200) (by decide +kernel) (cll_V (args := [.int x1, .int 0]) (n := 2) (by decide +kernel) rfl rfl (md_o hc) (by decide +kernel) (Nat.le_of_ble_eq_true rfl) (Nat.le_of_ble_eq_true rfl)) ?_
  show pmE pg X pg_tyl pg_cl (d + 5) 200 0 [.ref 147, .int 0, .int x1] [] (md wc f A) _
  refine pe_iload_n (j := 2) (by decide +kernel) rfl ?_
  refine pe_iconstv (n := 0) (v := 0) (by decide +kernel) (by decide +kernel) ?_
  refine pe_aload_n (j := 0) (by decide +kernel) rfl ?_
  refine pe_get (j := 7) (ci := 12) (n := 0) (by decide +kernel) (by decide +kernel) (md_o hc) rfl ?_
  refine pe_iload_n (j := 1) (by decide +kernel) rfl ?_
  refine pz_iald (by decide +kernel) (md_a148 hc) (mlen_148 hI) kz_0 (by omega) (by omega) (fun v1 ev1 => ?_)
  have rv1 : 0 ≤ v1.toInt ∧ v1.toInt ≤ 2 := MT_c0 (mt_148 hI ev1 (by omega)) (by omega)
  refine pe_iconstv (n := 1) (v := 1) (by decide +kernel) (by decide +kernel) ?_
  refine pz_sub (by decide +kernel) rfl kz_1 (by omega) (by omega) (fun z2 hz2 => ?_)
  refine pi_S (j := 119) (mj := 199) (by decide +kernel) (by decide +kernel) rfl ?_
  show pmE pg X pg_tyl pg_cl (d + 4) 199 0 [.int x1, .int 0, .int z2] [] (md wc f A) _
  refine pe_iload_n (j := 0) (by decide +kernel) rfl ?_
  refine pe_iload_n (j := 1) (by decide +kernel) rfl ?_
  have lw4 := zi_lo x1
  have uw4 := zi_hi x1
  refine pz_icmp_lt (off := 12) (t := 14) (by decide +kernel) (by decide) rfl rfl kz_0 (fun h3 => ?_) (fun h3 => ?_)
  · skip
    refine pe_iconstv (n := 0) (v := 0) (by decide +kernel) (by decide +kernel) ?_
    refine pe_iret (by decide +kernel) rfl rfl ⟨rfl, rfl, ?_⟩
    show pmE pg X pg_tyl pg_cl (d + 5) 200 13 [.ref 147, .int 0, .int x1] [.int 0] (md wc f A) _
    refine pe_iret (by decide +kernel) rfl rfl ⟨rfl, rfl, ?_⟩
    show pmE pg X pg_tyl pg_cl (d + 6) 246 6 [.ref 147, .int x1, .int x2, .int x3] [.int 0] (md wc f A) _
    refine pz_if_eq (off := 21) (t := 27) (by decide +kernel) (by decide) rfl kz_0 (fun h5 => ?_) (fun h5 => by omega)
    refine pe_iconstv (n := 0) (v := 0) (by decide +kernel) (by decide +kernel) ?_
    exact pe_iret (by decide +kernel) rfl rfl ⟨f, A, 0, rfl, hI, (fun k n14 n15 n16 => rfl), (fun k n152 n153 => rfl), Or.inl ⟨rfl, trivial⟩⟩
  · skip
    refine pe_iload_n (j := 0) (by decide +kernel) rfl ?_
    refine pe_iload_n (j := 2) (by decide +kernel) rfl ?_
    refine pz_icmp_gt (off := 7) (t := 14) (by decide +kernel) (by decide) rfl rfl hz2 (fun h6 => ?_) (fun h6 => ?_)
    · skip
      refine pe_iconstv (n := 0) (v := 0) (by decide +kernel) (by decide +kernel) ?_
      refine pe_iret (by decide +kernel) rfl rfl ⟨rfl, rfl, ?_⟩
      show pmE pg X pg_tyl pg_cl (d + 5) 200 13 [.ref 147, .int 0, .int x1] [.int 0] (md wc f A) _
      refine pe_iret (by decide +kernel) rfl rfl ⟨rfl, rfl, ?_⟩
      show pmE pg X pg_tyl pg_cl (d + 6) 246 6 [.ref 147, .int x1, .int x2, .int x3] [.int 0] (md wc f A) _
      refine pz_if_eq (off := 21) (t := 27) (by decide +kernel) (by decide) rfl kz_0 (fun h7 => ?_) (fun h7 => by omega)
      refine pe_iconstv (n := 0) (v := 0) (by decide +kernel) (by decide +kernel) ?_
      exact pe_iret (by decide +kernel) rfl rfl ⟨f, A, 0, rfl, hI, (fun k n14 n15 n16 => rfl), (fun k n152 n153 => rfl), Or.inl ⟨rfl, trivial⟩⟩
    · skip
      refine pe_iconstv (n := 1) (v := 1) (by decide +kernel) (by decide +kernel) ?_
      refine pe_goto (off := 4) (t := 15) (by decide +kernel) (by decide) rfl ?_
      refine pe_iret (by decide +kernel) rfl rfl ⟨rfl, rfl, ?_⟩
      show pmE pg X pg_tyl pg_cl (d + 5) 200 13 [.ref 147, .int 0, .int x1] [.int 1] (md wc f A) _
      refine pe_iret (by decide +kernel) rfl rfl ⟨rfl, rfl, ?_⟩
      show pmE pg X pg_tyl pg_cl (d + 6) 246 6 [.ref 147, .int x1, .int x2, .int x3] [.int 1] (md wc f A) _
      refine pz_if_eq (off := 21) (t := 27) (by decide +kernel) (by decide) rfl kz_1 (fun h8 => by omega) (fun h8 => ?_)
      refine pe_iload_n (j := 3) (by decide +kernel) rfl ?_
      have lw10 := zi_lo x3
      have uw10 := zi_hi x3
      refine pz_if_lt (off := 17) (t := 27) (by decide +kernel) (by decide) rfl rfl (fun h9 => ?_) (fun h9 => ?_)
      · skip
        refine pe_iconstv (n := 0) (v := 0) (by decide +kernel) (by decide +kernel) ?_
        exact pe_iret (by decide +kernel) rfl rfl ⟨f, A, 0, rfl, hI, (fun k n14 n15 n16 => rfl), (fun k n152 n153 => rfl), Or.inl ⟨rfl, trivial⟩⟩
      · skip
        refine pe_iload_n (j := 2) (by decide +kernel) rfl ?_
        refine pe_iconstv (n := (-1)) (v := (-1)) (by decide +kernel) (by decide +kernel) ?_
        have lw12 := zi_lo x2
        have uw12 := zi_hi x2
        refine pz_icmp_eq (off := 14) (t := 29) (by decide +kernel) (by decide) rfl rfl kz_m1 (fun h11 => ?_) (fun h11 => ?_)
        · skip
          refine pe_aload_n (j := 0) (by decide +kernel) rfl ?_
          refine pz_callV (j := 214) (mj := 229) (by decide +kernel) (cll_V (args := []) (n := 0) (by decide +kernel) rfl rfl (md_o hc) (by decide +kernel) (Nat.le_of_ble_eq_true rfl) (Nat.le_of_ble_eq_true rfl)) (NM_229 hc hI) (fun q13a q13b q13c q13d hqq13 => ?_)
          obtain ⟨f14, A15, eq13, hIq13, hGq13, hFq13, hX0q13, kq13⟩ := hqq13
          cases eq13
          refine ⟨rfl, rfl, ?_⟩
          have hr_f14_14 := mf_14 hIq13
          obtain ⟨hq16, kq13⟩ := kq13
          show pmE pg X pg_tyl pg_cl (d + 6) 246 33 [.ref 147, .int x1, .int x2, .int x3] [] (md wc f14 A15) _
          refine pe_iload_n (j := 2) (by decide +kernel) rfl ?_
          refine pe_iconstv (n := (-1)) (v := (-1)) (by decide +kernel) (by decide +kernel) ?_
          refine pz_icmp_ne (off := 15) (t := 50) (by decide +kernel) (by decide) rfl rfl kz_m1 (fun h17 => by omega) (fun h17 => ?_)
          refine pe_iload_n (j := 3) (by decide +kernel) rfl ?_
          refine pz_if_ne (off := 7) (t := 46) (by decide +kernel) (by decide) rfl rfl (fun h18 => ?_) (fun h18 => ?_)
          · skip
            refine pe_iconstv (n := 0) (v := 0) (by decide +kernel) (by decide +kernel) ?_
            refine pe_goto (off := 23) (t := 70) (by decide +kernel) (by decide) rfl ?_
            exact pe_iret (by decide +kernel) rfl rfl ⟨f14, A15, 0, rfl, hIq13, (fun k n14 n15 n16 => (hGq13 k n14 n15)), (fun k n152 n153 => (hFq13 k n152)), Or.inl ⟨rfl, trivial⟩⟩
          · skip
            refine pe_iconstv (n := 1) (v := 1) (by decide +kernel) (by decide +kernel) ?_
            refine pe_goto (off := 27) (t := 70) (by decide +kernel) (by decide) rfl ?_
            exact pe_iret (by decide +kernel) rfl rfl ⟨f14, A15, 1, rfl, hIq13, (fun k n14 n15 n16 => (hGq13 k n14 n15)), (fun k n152 n153 => (hFq13 k n152)), Or.inr (⟨rfl, (DF_zero hq16 (by decide)), (by omega)⟩)⟩
        · skip
          refine pe_aload_n (j := 0) (by decide +kernel) rfl ?_
          refine pe_iconstv (n := 1) (v := 1) (by decide +kernel) (by decide +kernel) ?_
          refine pe_iload_n (j := 2) (by decide +kernel) rfl ?_
          refine pi_V (j := 153) (mj := 200) (by decide +kernel) (cll_V (args := [.int x2, .int 1]) (n := 2) (by decide +kernel) rfl rfl (md_o hc) (by decide +kernel) (Nat.le_of_ble_eq_true rfl) (Nat.le_of_ble_eq_true rfl)) ?_
          show pmE pg X pg_tyl pg_cl (d + 5) 200 0 [.ref 147, .int 1, .int x2] [] (md wc f A) _
          refine pe_iload_n (j := 2) (by decide +kernel) rfl ?_
          refine pe_iconstv (n := 0) (v := 0) (by decide +kernel) (by decide +kernel) ?_
          refine pe_aload_n (j := 0) (by decide +kernel) rfl ?_
          refine pe_get (j := 7) (ci := 12) (n := 0) (by decide +kernel) (by decide +kernel) (md_o hc) rfl ?_
          refine pe_iload_n (j := 1) (by decide +kernel) rfl ?_
          refine pz_iald (by decide +kernel) (md_a148 hc) (mlen_148 hI) kz_1 (by omega) (by omega) (fun v19 ev19 => ?_)
          have rv19 : 0 ≤ v19.toInt ∧ v19.toInt ≤ 3 := MT_c1 (mt_148 hI ev19 (by omega)) (by omega)
          refine pe_iconstv (n := 1) (v := 1) (by decide +kernel) (by decide +kernel) ?_
          refine pz_sub (by decide +kernel) rfl kz_1 (by omega) (by omega) (fun z20 hz20 => ?_)
          refine pi_S (j := 119) (mj := 199) (by decide +kernel) (by decide +kernel) rfl ?_
          show pmE pg X pg_tyl pg_cl (d + 4) 199 0 [.int x2, .int 0, .int z20] [] (md wc f A) _
          refine pe_iload_n (j := 0) (by decide +kernel) rfl ?_
          refine pe_iload_n (j := 1) (by decide +kernel) rfl ?_
          refine pz_icmp_lt (off := 12) (t := 14) (by decide +kernel) (by decide) rfl rfl kz_0 (fun h21 => ?_) (fun h21 => ?_)
          · skip
            refine pe_iconstv (n := 0) (v := 0) (by decide +kernel) (by decide +kernel) ?_
            refine pe_iret (by decide +kernel) rfl rfl ⟨rfl, rfl, ?_⟩
            show pmE pg X pg_tyl pg_cl (d + 5) 200 13 [.ref 147, .int 1, .int x2] [.int 0] (md wc f A) _
            refine pe_iret (by decide +kernel) rfl rfl ⟨rfl, rfl, ?_⟩
            show pmE pg X pg_tyl pg_cl (d + 6) 246 24 [.ref 147, .int x1, .int x2, .int x3] [.int 0] (md wc f A) _
            refine pz_if_ne (off := 5) (t := 29) (by decide +kernel) (by decide) rfl kz_0 (fun h22 => by omega) (fun h22 => ?_)
            refine pe_iconstv (n := 0) (v := 0) (by decide +kernel) (by decide +kernel) ?_
            exact pe_iret (by decide +kernel) rfl rfl ⟨f, A, 0, rfl, hI, (fun k n14 n15 n16 => rfl), (fun k n152 n153 => rfl), Or.inl ⟨rfl, trivial⟩⟩
          · skip
            refine pe_iload_n (j := 0) (by decide +kernel) rfl ?_
            refine pe_iload_n (j := 2) (by decide +kernel) rfl ?_
            refine pz_icmp_gt (off := 7) (t := 14) (by decide +kernel) (by decide) rfl rfl hz20 (fun h23 => ?_) (fun h23 => ?_)
            · skip
              refine pe_iconstv (n := 0) (v := 0) (by decide +kernel) (by decide +kernel) ?_
              refine pe_iret (by decide +kernel) rfl rfl ⟨rfl, rfl, ?_⟩
              show pmE pg X pg_tyl pg_cl (d + 5) 200 13 [.ref 147, .int 1, .int x2] [.int 0] (md wc f A) _
              refine pe_iret (by decide +kernel) rfl rfl ⟨rfl, rfl, ?_⟩
              show pmE pg X pg_tyl pg_cl (d + 6) 246 24 [.ref 147, .int x1, .int x2, .int x3] [.int 0] (md wc f A) _
              refine pz_if_ne (off := 5) (t := 29) (by decide +kernel) (by decide) rfl kz_0 (fun h24 => by omega) (fun h24 => ?_)
              refine pe_iconstv (n := 0) (v := 0) (by decide +kernel) (by decide +kernel) ?_
              exact pe_iret (by decide +kernel) rfl rfl ⟨f, A, 0, rfl, hI, (fun k n14 n15 n16 => rfl), (fun k n152 n153 => rfl), Or.inl ⟨rfl, trivial⟩⟩
            · skip
              refine pe_iconstv (n := 1) (v := 1) (by decide +kernel) (by decide +kernel) ?_
              refine pe_goto (off := 4) (t := 15) (by decide +kernel) (by decide) rfl ?_
              refine pe_iret (by decide +kernel) rfl rfl ⟨rfl, rfl, ?_⟩
              show pmE pg X pg_tyl pg_cl (d + 5) 200 13 [.ref 147, .int 1, .int x2] [.int 1] (md wc f A) _
              refine pe_iret (by decide +kernel) rfl rfl ⟨rfl, rfl, ?_⟩
              show pmE pg X pg_tyl pg_cl (d + 6) 246 24 [.ref 147, .int x1, .int x2, .int x3] [.int 1] (md wc f A) _
              refine pz_if_ne (off := 5) (t := 29) (by decide +kernel) (by decide) rfl kz_1 (fun h25 => ?_) (fun h25 => by omega)
              refine pe_aload_n (j := 0) (by decide +kernel) rfl ?_
              refine pz_callV (j := 214) (mj := 229) (by decide +kernel) (cll_V (args := []) (n := 0) (by decide +kernel) rfl rfl (md_o hc) (by decide +kernel) (Nat.le_of_ble_eq_true rfl) (Nat.le_of_ble_eq_true rfl)) (NM_229 hc hI) (fun q26a q26b q26c q26d hqq26 => ?_)
              obtain ⟨f27, A28, eq26, hIq26, hGq26, hFq26, hX0q26, kq26⟩ := hqq26
              cases eq26
              refine ⟨rfl, rfl, ?_⟩
              have hr_f27_14 := mf_14 hIq26
              obtain ⟨hq29, kq26⟩ := kq26
              show pmE pg X pg_tyl pg_cl (d + 6) 246 33 [.ref 147, .int x1, .int x2, .int x3] [] (md wc f27 A28) _
              refine pe_iload_n (j := 2) (by decide +kernel) rfl ?_
              refine pe_iconstv (n := (-1)) (v := (-1)) (by decide +kernel) (by decide +kernel) ?_
              refine pz_icmp_ne (off := 15) (t := 50) (by decide +kernel) (by decide) rfl rfl kz_m1 (fun h30 => ?_) (fun h30 => by omega)
              refine pe_aload_n (j := 0) (by decide +kernel) rfl ?_
              refine pe_iconstv (n := 0) (v := 0) (by decide +kernel) (by decide +kernel) ?_
              refine pe_iload_n (j := 1) (by decide +kernel) rfl ?_
              refine pi_S (j := 163) (mj := 217) (by decide +kernel) (by decide +kernel) rfl ?_
              show pmE pg X pg_tyl pg_cl (d + 5) 217 0 [.int 0, .int x1] [] (md wc f27 A28) _
              refine pe_iload_n (j := 0) (by decide +kernel) rfl ?_
              refine pz_if_ne (off := 15) (t := 16) (by decide +kernel) (by decide) rfl kz_0 (fun h31 => by omega) (fun h31 => ?_)
              refine pe_sipushv (n := 610) (v := 610) (by decide +kernel) (by decide +kernel) ?_
              refine pe_sipushv (n := 132) (v := 132) (by decide +kernel) (by decide +kernel) ?_
              refine pe_iload_n (j := 1) (by decide +kernel) rfl ?_
              refine pz_mul (by decide +kernel) kz_132 rfl (by omega) (by omega) (fun z32 hz32 => ?_)
              refine pz_add (by decide +kernel) kz_610 hz32 (by omega) (by omega) (fun z33 hz33 => ?_)
              clear hz32
              refine pe_goto (off := 12) (t := 25) (by decide +kernel) (by decide) rfl ?_
              refine pe_iret (by decide +kernel) rfl rfl ⟨rfl, rfl, ?_⟩
              show pmE pg X pg_tyl pg_cl (d + 6) 246 56 [.ref 147, .int x1, .int x2, .int x3] [.int z33, .ref 147] (md wc f27 A28) _
              refine pe_iload_n (j := 2) (by decide +kernel) rfl ?_
              refine pe_iload_n (j := 3) (by decide +kernel) rfl ?_
              refine pz_callV (j := 226) (mj := 228) (by decide +kernel) (cll_V (args := [.int x3, .int x2, .int z33]) (n := 3) (by decide +kernel) rfl rfl (md_o hc) (by decide +kernel) (Nat.le_of_ble_eq_true rfl) (Nat.le_of_ble_eq_true rfl)) (NM_228 hc hIq26 (by omega) (by omega)) (fun q34a q34b q34c q34d hqq34 => ?_)
              obtain ⟨f35, A36, rq34, eq34, hIq34, hGq34, hFq34, kq34⟩ := hqq34
              cases eq34
              refine ⟨rfl, rfl, ?_⟩
              obtain ⟨kfq34, kq34⟩ := kq34
              obtain ⟨hp37, kq34⟩ := kq34
              show pmE pg X pg_tyl pg_cl (d + 6) 246 61 [.ref 147, .int x1, .int x2, .int x3] [.int rq34] (md wc f35 A36) _
              refine pe_iload_n (j := 3) (by decide +kernel) rfl ?_
              refine pz_icmp_ne (off := 7) (t := 69) (by decide +kernel) (by decide) rfl rfl rfl (fun h38 => ?_) (fun h38 => ?_)
              · skip
                refine pe_iconstv (n := 0) (v := 0) (by decide +kernel) (by decide +kernel) ?_
                exact pe_iret (by decide +kernel) rfl rfl ⟨f35, A36, 0, rfl, hIq34, (fun k n14 n15 n16 => ((hGq34 k n14 n15 n16)).trans ((hGq26 k n14 n15))), (fun k n152 n153 => ((hFq34 k n152 n153)).trans ((hFq26 k n152))), Or.inl ⟨rfl, trivial⟩⟩
              · skip
                refine pe_iconstv (n := 1) (v := 1) (by decide +kernel) (by decide +kernel) ?_
                refine pe_goto (off := 4) (t := 70) (by decide +kernel) (by decide) rfl ?_
                exact pe_iret (by decide +kernel) rfl rfl ⟨f35, A36, 1, rfl, hIq34, (fun k n14 n15 n16 => ((hGq34 k n14 n15 n16)).trans ((hGq26 k n14 n15))), (fun k n152 n153 => ((hFq34 k n152 n153)).trans ((hFq26 k n152))), Or.inr (⟨rfl, (by have h := hp37; rw [show A28 148 = A 148 from (hFq26 148 (by decide)), show (z33).toInt = 610 + 132 * x1.toInt from (by omega)] at h; exact h), (by omega)⟩)⟩
end
