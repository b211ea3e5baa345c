set_option maxRecDepth 100000 in
set_option maxHeartbeats 8000000 in
theorem NM_280 {X : pm_X} {d : Nat} {wc : pm_W} {f : Nat → Int32} {A : Nat → List Int32} {x1 x2 : Int32} (hc : wc.length = 147) (hI : MI f A) (gx1 : (0 ≤ x1.toInt ∧ x1.toInt ≤ 9)) (gx2 : (0 ≤ x2.toInt ∧ x2.toInt ≤ 9)) : pmE pg X pg_tyl pg_cl (d) 280 0 (pm_ent (pm_max pg 280) [.ref 147, .int x1, .int x2]) [] (md wc f A) (fun q => ∃ (r : Int32), q = (some (.int r), md wc f A, 0, 0) ∧ ((True ∧ r = spv A x1.toInt x2.toInt ∧ True))) := by
  show pmE pg X pg_tyl pg_cl (d) 280 0 [.ref 147, .int x1, .int x2] [] (md wc f A) _
  refine pe_aload_n (j := 0) (by decide +kernel) rfl ?_
  refine pe_get (j := 50) (ci := 12) (n := 26) (by decide +kernel) (by decide +kernel) (md_o hc) rfl ?_
  refine pe_bipushv (n := 10) (v := 10) (by decide +kernel) (by decide +kernel) ?_
  refine pe_iload_n (j := 1) (by decide +kernel) rfl ?_
  refine pz_mul (by decide +kernel) kz_10 rfl (by omega) (by omega) (fun z1 hz1 => ?_)
  refine pe_iload_n (j := 2) (by decide +kernel) rfl ?_
  refine pz_add (by decide +kernel) hz1 rfl (by omega) (by omega) (fun z2 hz2 => ?_)
  clear hz1
  refine pz_iald (by decide +kernel) (md_a161 hc) (mlen_161 hI) hz2 (by omega) (by omega) (fun v3 ev3 => ?_)
  clear hz2
  refine pe_aload_n (j := 0) (by decide +kernel) rfl ?_
  refine pe_get (j := 47) (ci := 12) (n := 25) (by decide +kernel) (by decide +kernel) (md_o hc) rfl ?_
  refine pe_bipushv (n := 10) (v := 10) (by decide +kernel) (by decide +kernel) ?_
  refine pe_iload_n (j := 1) (by decide +kernel) rfl ?_
  refine pz_mul (by decide +kernel) kz_10 rfl (by omega) (by omega) (fun z4 hz4 => ?_)
  refine pe_iload_n (j := 2) (by decide +kernel) rfl ?_
  refine pz_add (by decide +kernel) hz4 rfl (by omega) (by omega) (fun z5 hz5 => ?_)
  clear hz4
  refine pz_iald (by decide +kernel) (md_a160 hc) (mlen_160 hI) hz5 (by omega) (by omega) (fun v6 ev6 => ?_)
  clear hz5
  refine pe_isub (by decide +kernel) ?_
  refine pe_aload_n (j := 0) (by decide +kernel) rfl ?_
  refine pe_get (j := 53) (ci := 12) (n := 27) (by decide +kernel) (by decide +kernel) (md_o hc) rfl ?_
  refine pe_bipushv (n := 10) (v := 10) (by decide +kernel) (by decide +kernel) ?_
  refine pe_iload_n (j := 1) (by decide +kernel) rfl ?_
  refine pz_mul (by decide +kernel) kz_10 rfl (by omega) (by omega) (fun z7 hz7 => ?_)
  refine pe_iload_n (j := 2) (by decide +kernel) rfl ?_
  refine pz_add (by decide +kernel) hz7 rfl (by omega) (by omega) (fun z8 hz8 => ?_)
  clear hz7
  refine pz_iald (by decide +kernel) (md_a162 hc) (mlen_162 hI) hz8 (by omega) (by omega) (fun v9 ev9 => ?_)
  clear hz8
  refine pe_isub (by decide +kernel) ?_
  refine pe_aload_n (j := 0) (by decide +kernel) rfl ?_
  refine pe_get (j := 53) (ci := 12) (n := 27) (by decide +kernel) (by decide +kernel) (md_o hc) rfl ?_
  refine pe_bipushv (n := 10) (v := 10) (by decide +kernel) (by decide +kernel) ?_
  refine pe_iload_n (j := 2) (by decide +kernel) rfl ?_
  refine pz_mul (by decide +kernel) kz_10 rfl (by omega) (by omega) (fun z10 hz10 => ?_)
  refine pe_iload_n (j := 1) (by decide +kernel) rfl ?_
  refine pz_add (by decide +kernel) hz10 rfl (by omega) (by omega) (fun z11 hz11 => ?_)
  clear hz10
  refine pz_iald (by decide +kernel) (md_a162 hc) (mlen_162 hI) hz11 (by omega) (by omega) (fun v12 ev12 => ?_)
  clear hz11
  refine pe_iadd (by decide +kernel) ?_
  exact pe_iret (by decide +kernel) rfl rfl ⟨(((v3 - v6) - v9) + v12), rfl, ⟨trivial, (by rw [ev3, ev6, ev9, ev12]; rfl), trivial⟩⟩
set_option maxRecDepth 100000 in
set_option maxHeartbeats 8000000 in
theorem NM_281 {X : pm_X} {d : Nat} {wc : pm_W} {f : Nat → Int32} {A : Nat → List Int32} {x1 x2 x3 : Int32} (hc : wc.length = 147) (hI : MI f A) (gx1 : (0 ≤ x1.toInt ∧ x1.toInt ≤ 9)) (gx2 : (0 ≤ x2.toInt ∧ x2.toInt ≤ 9)) : pmE pg X pg_tyl pg_cl (d) 281 0 (pm_ent (pm_max pg 281) [.ref 147, .int x1, .int x2, .int x3]) [] (md wc f A) (fun q => ∃ (A' : Nat → List Int32), q = (none, md wc f A', 0, 0) ∧ MI f A' ∧ (∀ k : Nat, k ≠ 162 → A' k = A k) ∧ ((True))) := by
  show pmE pg X pg_tyl pg_cl (d) 281 0 [.ref 147, .int x1, .int x2, .int x3, pm_dead] [] (md wc f A) _
  refine pe_aload_n (j := 0) (by decide +kernel) rfl ?_
  refine pe_get (j := 53) (ci := 12) (n := 27) (by decide +kernel) (by decide +kernel) (md_o hc) rfl ?_
  refine pe_bipushv (n := 10) (v := 10) (by decide +kernel) (by decide +kernel) ?_
  refine pe_iload_n (j := 2) (by decide +kernel) rfl ?_
  refine pz_mul (by decide +kernel) kz_10 rfl (by omega) (by omega) (fun z1 hz1 => ?_)
  refine pe_iload_n (j := 1) (by decide +kernel) rfl ?_
  refine pz_add (by decide +kernel) hz1 rfl (by omega) (by omega) (fun z2 hz2 => ?_)
  clear hz1
  refine pz_iald (by decide +kernel) (md_a162 hc) (mlen_162 hI) hz2 (by omega) (by omega) (fun v3 ev3 => ?_)
  clear hz2
  refine pe_iload_n (j := 3) (by decide +kernel) rfl ?_
  have lw5 := zi_lo v3
  have uw5 := zi_hi v3
  have lw6 := zi_lo x3
  have uw6 := zi_hi x3
  refine pz_icmp_ge (off := 17) (t := 29) (by decide +kernel) (by decide) rfl rfl rfl (fun h4 => ?_) (fun h4 => ?_)
  · skip
    refine pe_iload_n (j := 3) (by decide +kernel) rfl ?_
    refine pe_istore (j := 4) (ls' := [.ref 147, .int x1, .int x2, .int x3, .int x3]) (by decide +kernel) (Nat.le_of_ble_eq_true rfl) rfl ?_
    refine pe_aload_n (j := 0) (by decide +kernel) rfl ?_
    refine pe_get (j := 53) (ci := 12) (n := 27) (by decide +kernel) (by decide +kernel) (md_o hc) rfl ?_
    refine pe_bipushv (n := 10) (v := 10) (by decide +kernel) (by decide +kernel) ?_
    refine pe_iload_n (j := 2) (by decide +kernel) rfl ?_
    refine pz_mul (by decide +kernel) kz_10 rfl (by omega) (by omega) (fun z7 hz7 => ?_)
    refine pe_iload_n (j := 1) (by decide +kernel) rfl ?_
    refine pz_add (by decide +kernel) hz7 rfl (by omega) (by omega) (fun z8 hz8 => ?_)
    clear hz7
    refine pe_dup2 (by decide +kernel) ⟨rfl, rfl⟩ ?_
    refine pz_iald (by decide +kernel) (md_a162 hc) (mlen_162 hI) hz8 (by omega) (by omega) (fun v9 ev9 => ?_)
    rw [ev9.trans ev3.symm]
    clear ev9 v9
    refine pe_iload (j := 4) (by decide +kernel) rfl ?_
    refine pw_sub (by decide +kernel) (fun z10 => ?_)
    refine mz_st162 (by decide +kernel) hc hI hz8 (by omega) (by omega) (fun A11 eA11 hIA11 => ?_)
    refine pe_aload_n (j := 0) (by decide +kernel) rfl ?_
    refine pe_get (j := 53) (ci := 12) (n := 27) (by decide +kernel) (by decide +kernel) (md_o hc) rfl ?_
    refine pe_bipushv (n := 10) (v := 10) (by decide +kernel) (by decide +kernel) ?_
    refine pe_iload_n (j := 1) (by decide +kernel) rfl ?_
    refine pz_mul (by decide +kernel) kz_10 rfl (by omega) (by omega) (fun z12 hz12 => ?_)
    refine pe_iload_n (j := 2) (by decide +kernel) rfl ?_
    refine pz_add (by decide +kernel) hz12 rfl (by omega) (by omega) (fun z13 hz13 => ?_)
    clear hz12
    refine pe_dup2 (by decide +kernel) ⟨rfl, rfl⟩ ?_
    refine pz_iald (by decide +kernel) (md_a162 hc) (mlen_162 hIA11) hz13 (by omega) (by omega) (fun v14 ev14 => ?_)
    refine pe_iload_n (j := 3) (by decide +kernel) rfl ?_
    refine pe_iload (j := 4) (by decide +kernel) rfl ?_
    refine pz_sub (by decide +kernel) rfl rfl (by omega) (by omega) (fun z15 hz15 => ?_)
    have lw17 := zi_lo v14
    have uw17 := zi_hi v14
    refine pz_add (by decide +kernel) rfl hz15 (by omega) (by omega) (fun z16 hz16 => ?_)
    clear hz15
    refine mz_st162 (by decide +kernel) hc hIA11 hz13 (by omega) (by omega) (fun A18 eA18 hIA18 => ?_)
    exact pe_vret (by decide +kernel) rfl ⟨A18, rfl, hIA18, (fun k n162 => (upa_fr eA18 n162).trans (upa_fr eA11 n162)), trivial⟩
  · skip
    refine pe_aload_n (j := 0) (by decide +kernel) rfl ?_
    refine pe_get (j := 53) (ci := 12) (n := 27) (by decide +kernel) (by decide +kernel) (md_o hc) rfl ?_
    refine pe_bipushv (n := 10) (v := 10) (by decide +kernel) (by decide +kernel) ?_
    refine pe_iload_n (j := 2) (by decide +kernel) rfl ?_
    refine pz_mul (by decide +kernel) kz_10 rfl (by omega) (by omega) (fun z19 hz19 => ?_)
    refine pe_iload_n (j := 1) (by decide +kernel) rfl ?_
    refine pz_add (by decide +kernel) hz19 rfl (by omega) (by omega) (fun z20 hz20 => ?_)
    clear hz19
    refine pz_iald (by decide +kernel) (md_a162 hc) (mlen_162 hI) hz20 (by omega) (by omega) (fun v21 ev21 => ?_)
    rw [ev21.trans ev3.symm]
    clear ev21 v21
    clear hz20
    refine pe_goto (off := 4) (t := 30) (by decide +kernel) (by decide) rfl ?_
    refine pe_istore (j := 4) (ls' := [.ref 147, .int x1, .int x2, .int x3, .int v3]) (by decide +kernel) (Nat.le_of_ble_eq_true rfl) rfl ?_
    refine pe_aload_n (j := 0) (by decide +kernel) rfl ?_
    refine pe_get (j := 53) (ci := 12) (n := 27) (by decide +kernel) (by decide +kernel) (md_o hc) rfl ?_
    refine pe_bipushv (n := 10) (v := 10) (by decide +kernel) (by decide +kernel) ?_
    refine pe_iload_n (j := 2) (by decide +kernel) rfl ?_
    refine pz_mul (by decide +kernel) kz_10 rfl (by omega) (by omega) (fun z22 hz22 => ?_)
    refine pe_iload_n (j := 1) (by decide +kernel) rfl ?_
    refine pz_add (by decide +kernel) hz22 rfl (by omega) (by omega) (fun z23 hz23 => ?_)
    clear hz22
    refine pe_dup2 (by decide +kernel) ⟨rfl, rfl⟩ ?_
    refine pz_iald (by decide +kernel) (md_a162 hc) (mlen_162 hI) hz23 (by omega) (by omega) (fun v24 ev24 => ?_)
    rw [ev24.trans ev3.symm]
    clear ev24 v24
    refine pe_iload (j := 4) (by decide +kernel) rfl ?_
    refine pz_sub (by decide +kernel) rfl rfl (by omega) (by omega) (fun z25 hz25 => ?_)
    refine mz_st162 (by decide +kernel) hc hI hz23 (by omega) (by omega) (fun A26 eA26 hIA26 => ?_)
    refine pe_aload_n (j := 0) (by decide +kernel) rfl ?_
    refine pe_get (j := 53) (ci := 12) (n := 27) (by decide +kernel) (by decide +kernel) (md_o hc) rfl ?_
    refine pe_bipushv (n := 10) (v := 10) (by decide +kernel) (by decide +kernel) ?_
    refine pe_iload_n (j := 1) (by decide +kernel) rfl ?_
    refine pz_mul (by decide +kernel) kz_10 rfl (by omega) (by omega) (fun z27 hz27 => ?_)
    refine pe_iload_n (j := 2) (by decide +kernel) rfl ?_
    refine pz_add (by decide +kernel) hz27 rfl (by omega) (by omega) (fun z28 hz28 => ?_)
    clear hz27
    refine pe_dup2 (by decide +kernel) ⟨rfl, rfl⟩ ?_
    refine pz_iald (by decide +kernel) (md_a162 hc) (mlen_162 hIA26) hz28 (by omega) (by omega) (fun v29 ev29 => ?_)
    refine pe_iload_n (j := 3) (by decide +kernel) rfl ?_
    refine pe_iload (j := 4) (by decide +kernel) rfl ?_
    refine pw_sub (by decide +kernel) (fun z30 => ?_)
    refine pw_add (by decide +kernel) (fun z31 => ?_)
    refine mz_st162 (by decide +kernel) hc hIA26 hz28 (by omega) (by omega) (fun A32 eA32 hIA32 => ?_)
    exact pe_vret (by decide +kernel) rfl ⟨A32, rfl, hIA32, (fun k n162 => (upa_fr eA32 n162).trans (upa_fr eA26 n162)), trivial⟩
set_option maxRecDepth 100000 in
set_option maxHeartbeats 8000000 in
theorem NL_279_52 {X : pm_X} {d : Nat} {wc : pm_W} {Q : pm_R → Prop} {f : Nat → Int32} {A0 : Nat → List Int32} {x2 : Int32} {K : Nat} (hc : wc.length = 147) (gx2 : (0 ≤ x2.toInt ∧ x2.toInt ≤ 9)) (k_119_0 : ∀ (A' : Nat → List Int32) (y1 : Int32) (y3 : Int32), MI f A' → (∀ k : Nat, k ≠ 164 → A' k = A0 k) → (0 ≤ y1.toInt ∧ y1.toInt ≤ 1) → (10 ≤ y3.toInt ∧ y3.toInt ≤ 10) → WF A' → (K : Int) + y1.toInt ≤ ((cnn (A' 164) : Nat) : Int) → pmE pg X pg_tyl pg_cl (d + 1) 279 119 [.ref 147, .int y1, .int x2, .int y3] [] (md wc f A') Q) (kr_v : ∀ (A' : Nat → List Int32) (r : Int32), MI f A' → (∀ k : Nat, k ≠ 164 → A' k = A0 k) → (0 ≤ r.toInt ∧ r.toInt ≤ 9) → PT A' r.toInt → Q (some (.int r), md wc f A', 0, 0)) : ∀ (m : Nat) (A : Nat → List Int32) (x1 : Int32) (x3 : Int32), MI f A → (∀ k : Nat, k ≠ 164 → A k = A0 k) → (0 ≤ x1.toInt ∧ x1.toInt ≤ 1) → (0 ≤ x3.toInt ∧ x3.toInt ≤ 10) → WF A → (K : Int) + x1.toInt ≤ ((cnn (A 164) : Nat) : Int) → 10 - x3.toInt < (m : Int) → pmE pg X pg_tyl pg_cl (d + 1) 279 52 [.ref 147, .int x1, .int x2, .int x3] [] (md wc f A) Q := by
  intro m
  induction m with
  | zero =>
    intro A x1 x3 hI hF gx1 gx3 hpi0 hpi1 hm
    exfalso
    have l0 := zi_lo x3
    have u0 := zi_hi x3
    omega
  | succ m ih =>
    intro A x1 x3 hI hF gx1 gx3 hpi0 hpi1 hm
    refine pe_iload_n (j := 3) (by decide +kernel) rfl ?_
    refine pe_bipushv (n := 10) (v := 10) (by decide +kernel) (by decide +kernel) ?_
    refine pz_icmp_ge (off := 64) (t := 119) (by decide +kernel) (by decide) rfl rfl kz_10 (fun h1 => ?_) (fun h1 => ?_)
    · skip
      exact k_119_0 A x1 x3 hI (fun k n164 => (hF k n164)) (by omega) (by omega) hpi0 (by omega)
    · skip
      refine pe_aload_n (j := 0) (by decide +kernel) rfl ?_
      refine pe_get (j := 59) (ci := 12) (n := 29) (by decide +kernel) (by decide +kernel) (md_o hc) rfl ?_
      refine pe_iload_n (j := 2) (by decide +kernel) rfl ?_
      refine pz_iald (by decide +kernel) (md_a164 hc) (mlen_164 hI) rfl (by omega) (by omega) (fun v2 ev2 => ?_)
      have rv2 : (-1) ≤ v2.toInt ∧ v2.toInt ≤ 9 := mp_164 hI ev2
      refine pz_if_lt (off := 49) (t := 113) (by decide +kernel) (by decide) rfl rfl (fun h3 => ?_) (fun h3 => ?_)
      · skip
        refine pz_iinc (j := 3) (n := 1) (by decide +kernel) rfl rfl (by decide +kernel) (by omega) (by omega) (fun z4 hz4 => ?_)
        show pmE pg X pg_tyl pg_cl (d + 1) 279 116 [.ref 147, .int x1, .int x2, .int z4] [] (md wc f A) _
        refine pe_goto (off := (-64)) (t := 52) (by decide +kernel) (by decide) rfl ?_
        exact ih A x1 z4 hI (fun k n164 => (hF k n164)) (by omega) (by omega) hpi0 (by omega) (by omega)
      · skip
        refine pe_aload_n (j := 0) (by decide +kernel) rfl ?_
        refine pe_get (j := 59) (ci := 12) (n := 29) (by decide +kernel) (by decide +kernel) (md_o hc) rfl ?_
        refine pe_iload_n (j := 3) (by decide +kernel) rfl ?_
        refine pz_iald (by decide +kernel) (md_a164 hc) (mlen_164 hI) rfl (by omega) (by omega) (fun v5 ev5 => ?_)
        have rv5 : (-1) ≤ v5.toInt ∧ v5.toInt ≤ 9 := mp_164 hI ev5
        refine pz_if_ge (off := 40) (t := 113) (by decide +kernel) (by decide) rfl rfl (fun h6 => ?_) (fun h6 => ?_)
        · skip
          refine pz_iinc (j := 3) (n := 1) (by decide +kernel) rfl rfl (by decide +kernel) (by omega) (by omega) (fun z7 hz7 => ?_)
          show pmE pg X pg_tyl pg_cl (d + 1) 279 116 [.ref 147, .int x1, .int x2, .int z7] [] (md wc f A) _
          refine pe_goto (off := (-64)) (t := 52) (by decide +kernel) (by decide) rfl ?_
          exact ih A x1 z7 hI (fun k n164 => (hF k n164)) (by omega) (by omega) hpi0 (by omega) (by omega)
        · skip
          refine pe_iload_n (j := 2) (by decide +kernel) rfl ?_
          refine pe_iload_n (j := 3) (by decide +kernel) rfl ?_
          refine pz_icmp_eq (off := 35) (t := 113) (by decide +kernel) (by decide) rfl rfl rfl (fun h8 => ?_) (fun h8 => ?_)
          · skip
            refine pz_iinc (j := 3) (n := 1) (by decide +kernel) rfl rfl (by decide +kernel) (by omega) (by omega) (fun z9 hz9 => ?_)
            show pmE pg X pg_tyl pg_cl (d + 1) 279 116 [.ref 147, .int x1, .int x2, .int z9] [] (md wc f A) _
            refine pe_goto (off := (-64)) (t := 52) (by decide +kernel) (by decide) rfl ?_
            exact ih A x1 z9 hI (fun k n164 => (hF k n164)) (by omega) (by omega) hpi0 (by omega) (by omega)
          · skip
            refine pe_aload_n (j := 0) (by decide +kernel) rfl ?_
            refine pe_iload_n (j := 2) (by decide +kernel) rfl ?_
            refine pe_iload_n (j := 3) (by decide +kernel) rfl ?_
            refine pz_callV (j := 314) (mj := 280) (by decide +kernel) (cll_V (args := [.int x3, .int x2]) (n := 2) (by decide +kernel) rfl rfl (md_o hc) (by decide +kernel) (Nat.le_of_ble_eq_true rfl) (Nat.le_of_ble_eq_true rfl)) (NM_280 hc hI (by omega) (by omega)) (fun q10a q10b q10c q10d hqq10 => ?_)
            obtain ⟨rq10, eq10, kq10⟩ := hqq10
            cases eq10
            refine ⟨rfl, rfl, ?_⟩
            obtain ⟨kfq10, kq10⟩ := kq10
            obtain ⟨hp11, kq10⟩ := kq10
            show pmE pg X pg_tyl pg_cl (d + 1) 279 87 [.ref 147, .int x1, .int x2, .int x3] [.int rq10] (md wc f A) _
            have lw13 := zi_lo rq10
            have uw13 := zi_hi rq10
            refine pz_if_gt (off := 6) (t := 93) (by decide +kernel) (by decide) rfl rfl (fun h12 => ?_) (fun h12 => ?_)
            · skip
              refine pe_aload_n (j := 0) (by decide +kernel) rfl ?_
              refine pe_get (j := 59) (ci := 12) (n := 29) (by decide +kernel) (by decide +kernel) (md_o hc) rfl ?_
              refine pe_iload_n (j := 3) (by decide +kernel) rfl ?_
              refine pe_iload_n (j := 2) (by decide +kernel) rfl ?_
              refine mz_st164 (by decide +kernel) hc hI rfl (by omega) (by omega) (by simp only [MP_from0]; omega) (fun A14 eA14 hIA14 => ?_)
              have hwf15 : WF A14 := WF_step (a := x2.toInt) (b := x3.toInt) hpi0 (by omega) (by omega) (by omega) (mlen_164 hI) (by omega) (by show 0 ≤ ((A 164).getD x2.toInt.toNat 0).toInt; rw [← ev2]; omega) (by show ((A 164).getD x3.toInt.toNat 0).toInt < 0; rw [← ev5]; omega) (by rw [← hp11]; omega) rfl eA14
              have hcn16 : cnn (A14 164) = cnn (A 164) + 1 := by rw [upa_at eA14]; exact cnn_set0 (by omega) (by rw [mlen_164 hI]; omega) (by show ((A 164).getD x3.toInt.toNat 0).toInt < 0; rw [← ev5]; omega) (by omega)
              refine pe_iconstv (n := 1) (v := 1) (by decide +kernel) (by decide +kernel) ?_
              refine pe_istore_n (j := 1) (ls' := [.ref 147, .int 1, .int x2, .int x3]) (by decide +kernel) (Nat.le_of_ble_eq_true rfl) rfl ?_
              refine pe_aload_n (j := 0) (by decide +kernel) rfl ?_
              refine pe_get (j := 56) (ci := 12) (n := 28) (by decide +kernel) (by decide +kernel) (md_o hc) rfl ?_
              refine pe_iload_n (j := 3) (by decide +kernel) rfl ?_
              refine pz_iald (by decide +kernel) (md_a163 hc) (mlen_163 hIA14) rfl (by omega) (by omega) (fun v17 ev17 => ?_)
              rw [show A14 163 = A0 163 from (upa_fr eA14 (by decide)).trans ((hF 163 (by decide)))] at ev17
              have lw19 := zi_lo v17
              have uw19 := zi_hi v17
              refine pz_if_ge (off := 5) (t := 113) (by decide +kernel) (by decide) rfl rfl (fun h18 => ?_) (fun h18 => ?_)
              · skip
                refine pz_iinc (j := 3) (n := 1) (by decide +kernel) rfl rfl (by decide +kernel) (by omega) (by omega) (fun z20 hz20 => ?_)
                show pmE pg X pg_tyl pg_cl (d + 1) 279 116 [.ref 147, .int 1, .int x2, .int z20] [] (md wc f A14) _
                refine pe_goto (off := (-64)) (t := 52) (by decide +kernel) (by decide) rfl ?_
                have hl21 := kz_1
                exact ih A14 1 z20 hIA14 (fun k n164 => (upa_fr eA14 n164).trans ((hF k n164))) (by decide +kernel) (by omega) hwf15 (by rw [hcn16]; omega) (by omega)
              · skip
                have hpt22 : PT A14 x3.toInt := ⟨by show ((A14 163).getD x3.toInt.toNat 0).toInt < 0; rw [show A14 163 = A0 163 from (upa_fr eA14 (by decide)).trans ((hF 163 (by decide))), ← ev17]; omega, by rw [upa_at eA14, fr_eq (by omega) (by rw [mlen_164 hI]; omega)]; omega, hwf15⟩
                refine pe_iload_n (j := 3) (by decide +kernel) rfl ?_
                exact pe_iret (by decide +kernel) rfl rfl (kr_v A14 x3 hIA14 (fun k n164 => (upa_fr eA14 n164).trans ((hF k n164))) (by omega) hpt22)
            · skip
              refine pe_goto (off := 23) (t := 113) (by decide +kernel) (by decide) rfl ?_
              refine pz_iinc (j := 3) (n := 1) (by decide +kernel) rfl rfl (by decide +kernel) (by omega) (by omega) (fun z23 hz23 => ?_)
              show pmE pg X pg_tyl pg_cl (d + 1) 279 116 [.ref 147, .int x1, .int x2, .int z23] [] (md wc f A) _
              refine pe_goto (off := (-64)) (t := 52) (by decide +kernel) (by decide) rfl ?_
              exact ih A x1 z23 hI (fun k n164 => (hF k n164)) (by omega) (by omega) hpi0 (by omega) (by omega)
set_option maxRecDepth 100000 in
set_option maxHeartbeats 8000000 in
theorem NL_279_44 {X : pm_X} {d : Nat} {wc : pm_W} {Q : pm_R → Prop} {f : Nat → Int32} {A0 : Nat → List Int32} {K : Nat} (hc : wc.length = 147) (k_125_0 : ∀ (A' : Nat → List Int32) (y1 : Int32) (y2 : Int32) (v3 : Value), MI f A' → (∀ k : Nat, k ≠ 164 → A' k = A0 k) → (0 ≤ y1.toInt ∧ y1.toInt ≤ 1) → (10 ≤ y2.toInt ∧ y2.toInt ≤ 10) → WF A' → (K : Int) + y1.toInt ≤ ((cnn (A' 164) : Nat) : Int) → pmE pg X pg_tyl pg_cl (d + 1) 279 125 [.ref 147, .int y1, .int y2, v3] [] (md wc f A') Q) (kr_v : ∀ (A' : Nat → List Int32) (r : Int32), MI f A' → (∀ k : Nat, k ≠ 164 → A' k = A0 k) → (0 ≤ r.toInt ∧ r.toInt ≤ 9) → PT A' r.toInt → Q (some (.int r), md wc f A', 0, 0)) : ∀ (m : Nat) (A : Nat → List Int32) (x1 : Int32) (x2 : Int32) (u3 : Value), MI f A → (∀ k : Nat, k ≠ 164 → A k = A0 k) → (0 ≤ x1.toInt ∧ x1.toInt ≤ 1) → (0 ≤ x2.toInt ∧ x2.toInt ≤ 10) → WF A → (K : Int) + x1.toInt ≤ ((cnn (A 164) : Nat) : Int) → 10 - x2.toInt < (m : Int) → pmE pg X pg_tyl pg_cl (d + 1) 279 44 [.ref 147, .int x1, .int x2, u3] [] (md wc f A) Q := by
  intro m
  induction m with
  | zero =>
    intro A x1 x2 u3 hI hF gx1 gx2 hpi0 hpi1 hm
    exfalso
    have l0 := zi_lo x2
    have u0 := zi_hi x2
    omega
  | succ m ih =>
    intro A x1 x2 u3 hI hF gx1 gx2 hpi0 hpi1 hm
    refine pe_iload_n (j := 2) (by decide +kernel) rfl ?_
    refine pe_bipushv (n := 10) (v := 10) (by decide +kernel) (by decide +kernel) ?_
    refine pz_icmp_ge (off := 78) (t := 125) (by decide +kernel) (by decide) rfl rfl kz_10 (fun h1 => ?_) (fun h1 => ?_)
    · skip
      exact k_125_0 A x1 x2 (u3) hI (fun k n164 => (hF k n164)) (by omega) (by omega) hpi0 (by omega)
    · skip
      refine pe_iconstv (n := 0) (v := 0) (by decide +kernel) (by decide +kernel) ?_
      refine pe_istore_n (j := 3) (ls' := [.ref 147, .int x1, .int x2, .int 0]) (by decide +kernel) (Nat.le_of_ble_eq_true rfl) rfl ?_
      refine NL_279_52 (K := K) hc (by omega) (fun A2 y3 y4 hIy5 hFA2 gy3 gy4 hp6 hp7 => ?_) (fun A8 r9 hIy10 hFA8 gr9 hp11 => (kr_v A8 r9 hIy10 (fun k n164 => ((hFA8 k n164)).trans ((hF k n164))) (by omega) hp11)) 11 A x1 0 hI (fun k _ => rfl) (by omega) (by decide +kernel) hpi0 (by omega) (by decide +kernel)
      refine pz_iinc (j := 2) (n := 1) (by decide +kernel) rfl rfl (by decide +kernel) (by omega) (by omega) (fun z12 hz12 => ?_)
      show pmE pg X pg_tyl pg_cl (d + 1) 279 122 [.ref 147, .int y3, .int z12, .int y4] [] (md wc f A2) _
      refine pe_goto (off := (-78)) (t := 44) (by decide +kernel) (by decide) rfl ?_
      exact ih A2 y3 z12 (.int y4) hIy5 (fun k n164 => ((hFA2 k n164)).trans ((hF k n164))) (by omega) (by omega) hp6 (by omega) (by omega)
set_option maxRecDepth 100000 in
set_option maxHeartbeats 8000000 in
theorem NL_279_36 {X : pm_X} {d : Nat} {wc : pm_W} {Q : pm_R → Prop} {f : Nat → Int32} {A0 : Nat → List Int32} (hc : wc.length = 147) (k_128_0 : ∀ (A' : Nat → List Int32) (y1 : Int32) (v2 : Value) (v3 : Value), MI f A' → (∀ k : Nat, k ≠ 164 → A' k = A0 k) → (0 ≤ y1.toInt ∧ y1.toInt ≤ 0) → WF A' → pmE pg X pg_tyl pg_cl (d + 1) 279 128 [.ref 147, .int y1, v2, v3] [] (md wc f A') Q) (kr_v : ∀ (A' : Nat → List Int32) (r : Int32), MI f A' → (∀ k : Nat, k ≠ 164 → A' k = A0 k) → (0 ≤ r.toInt ∧ r.toInt ≤ 9) → PT A' r.toInt → Q (some (.int r), md wc f A', 0, 0)) : ∀ (m : Nat) (A : Nat → List Int32) (x1 : Int32) (u2 : Value) (u3 : Value), MI f A → (∀ k : Nat, k ≠ 164 → A k = A0 k) → (0 ≤ x1.toInt ∧ x1.toInt ≤ 1) → WF A → 10 - cnn (A 164) + x1.toInt.toNat < m → pmE pg X pg_tyl pg_cl (d + 1) 279 36 [.ref 147, .int x1, u2, u3] [] (md wc f A) Q := by
  intro m
  induction m with
  | zero =>
    intro A x1 u2 u3 hI hF gx1 hpi0 hm
    exfalso
    exact absurd hm (Nat.not_lt_zero _)
  | succ m ih =>
    intro A x1 u2 u3 hI hF gx1 hpi0 hm
    refine pe_iload_n (j := 1) (by decide +kernel) rfl ?_
    refine pz_if_eq (off := 91) (t := 128) (by decide +kernel) (by decide) rfl rfl (fun h1 => ?_) (fun h1 => ?_)
    · skip
      exact k_128_0 A x1 (u2) (u3) hI (fun k n164 => (hF k n164)) (by omega) hpi0
    · skip
      refine pe_iconstv (n := 0) (v := 0) (by decide +kernel) (by decide +kernel) ?_
      refine pe_istore_n (j := 1) (ls' := [.ref 147, .int 0, u2, u3]) (by decide +kernel) (Nat.le_of_ble_eq_true rfl) rfl ?_
      refine pe_iconstv (n := 0) (v := 0) (by decide +kernel) (by decide +kernel) ?_
      refine pe_istore_n (j := 2) (ls' := [.ref 147, .int 0, .int 0, u3]) (by decide +kernel) (Nat.le_of_ble_eq_true rfl) rfl ?_
      have hl13 := kz_0
      refine NL_279_44 (K := cnn (A 164)) hc (fun A2 y3 y4 u5 hIy6 hFA2 gy3 gy4 hp7 hp8 => ?_) (fun A9 r10 hIy11 hFA9 gr10 hp12 => (kr_v A9 r10 hIy11 (fun k n164 => ((hFA9 k n164)).trans ((hF k n164))) (by omega) hp12)) 11 A 0 0 (u3) hI (fun k _ => rfl) (by decide +kernel) (by decide +kernel) hpi0 (by omega) (by decide +kernel)
      refine pe_goto (off := (-89)) (t := 36) (by decide +kernel) (by decide) rfl ?_
      have hl1 := cnn_le (A2 164)
      rw [mlen_164 hIy6] at hl1
      exact ih A2 y3 (.int y4) (u5) hIy6 (fun k n164 => ((hFA2 k n164)).trans ((hF k n164))) (by omega) hp7 (by omega)
set_option maxRecDepth 100000 in
set_option maxHeartbeats 8000000 in
theorem NL_279_2 {X : pm_X} {d : Nat} {wc : pm_W} {Q : pm_R → Prop} {f : Nat → Int32} {A0 : Nat → List Int32} (hc : wc.length = 147) (k_34_0 : ∀ (A' : Nat → List Int32) (y1 : Int32), MI f A' → (∀ k : Nat, k ≠ 164 → A' k = A0 k) → (10 ≤ y1.toInt ∧ y1.toInt ≤ 10) → W1 A' y1.toInt → pmE pg X pg_tyl pg_cl (d + 1) 279 34 [.ref 147, .int y1, pm_dead, pm_dead] [] (md wc f A') Q) : ∀ (m : Nat) (A : Nat → List Int32) (x1 : Int32), MI f A → (∀ k : Nat, k ≠ 164 → A k = A0 k) → (0 ≤ x1.toInt ∧ x1.toInt ≤ 10) → W1 A x1.toInt → 10 - x1.toInt < (m : Int) → pmE pg X pg_tyl pg_cl (d + 1) 279 2 [.ref 147, .int x1, pm_dead, pm_dead] [] (md wc f A) Q := by
  intro m
  induction m with
  | zero =>
    intro A x1 hI hF gx1 hpi0 hm
    exfalso
    have l0 := zi_lo x1
    have u0 := zi_hi x1
    omega
  | succ m ih =>
    intro A x1 hI hF gx1 hpi0 hm
    refine pe_iload_n (j := 1) (by decide +kernel) rfl ?_
    refine pe_bipushv (n := 10) (v := 10) (by decide +kernel) (by decide +kernel) ?_
    refine pz_icmp_ge (off := 29) (t := 34) (by decide +kernel) (by decide) rfl rfl kz_10 (fun h1 => ?_) (fun h1 => ?_)
    · skip
      exact k_34_0 A x1 hI (fun k n164 => (hF k n164)) (by omega) hpi0
    · skip
      refine pe_aload_n (j := 0) (by decide +kernel) rfl ?_
      refine pe_get (j := 59) (ci := 12) (n := 29) (by decide +kernel) (by decide +kernel) (md_o hc) rfl ?_
      refine pe_iload_n (j := 1) (by decide +kernel) rfl ?_
      refine pe_aload_n (j := 0) (by decide +kernel) rfl ?_
      refine pe_get (j := 56) (ci := 12) (n := 28) (by decide +kernel) (by decide +kernel) (md_o hc) rfl ?_
      refine pe_iload_n (j := 1) (by decide +kernel) rfl ?_
      refine pz_iald (by decide +kernel) (md_a163 hc) (mlen_163 hI) rfl (by omega) (by omega) (fun v2 ev2 => ?_)
      rw [show A 163 = A0 163 from (hF 163 (by decide))] at ev2
      have lw4 := zi_lo v2
      have uw4 := zi_hi v2
      refine pz_if_le (off := 7) (t := 26) (by decide +kernel) (by decide) rfl rfl (fun h3 => ?_) (fun h3 => ?_)
      · skip
        refine pe_iconstv (n := (-1)) (v := (-1)) (by decide +kernel) (by decide +kernel) ?_
        refine mz_st164 (by decide +kernel) hc hI rfl (by omega) (by omega) (by rw [kz_m1]; simp only [MP_from0]; omega) (fun A5 eA5 hIA5 => ?_)
        refine pz_iinc (j := 1) (n := 1) (by decide +kernel) rfl rfl (by decide +kernel) (by omega) (by omega) (fun z6 hz6 => ?_)
        show pmE pg X pg_tyl pg_cl (d + 1) 279 31 [.ref 147, .int z6, pm_dead, pm_dead] [] (md wc f A5) _
        refine pe_goto (off := (-29)) (t := 2) (by decide +kernel) (by decide) rfl ?_
        have hw1 : W1 A5 (x1.toInt + 1) := W1_step (p := x1.toInt) hpi0 (by omega) (by omega) (mlen_164 hI) eA5 (Or.inr kz_m1)
        exact ih A5 z6 hIA5 (fun k n164 => (upa_fr eA5 n164).trans ((hF k n164))) (by omega) (by rw [hz6]; exact hw1) (by omega)
      · skip
        refine pe_iload_n (j := 1) (by decide +kernel) rfl ?_
        refine pe_goto (off := 4) (t := 27) (by decide +kernel) (by decide) rfl ?_
        refine mz_st164 (by decide +kernel) hc hI rfl (by omega) (by omega) (by simp only [MP_from0]; omega) (fun A7 eA7 hIA7 => ?_)
        refine pz_iinc (j := 1) (n := 1) (by decide +kernel) rfl rfl (by decide +kernel) (by omega) (by omega) (fun z8 hz8 => ?_)
        show pmE pg X pg_tyl pg_cl (d + 1) 279 31 [.ref 147, .int z8, pm_dead, pm_dead] [] (md wc f A7) _
        refine pe_goto (off := (-29)) (t := 2) (by decide +kernel) (by decide) rfl ?_
        have hw1 : W1 A7 (x1.toInt + 1) := W1_step (p := x1.toInt) hpi0 (by omega) (by omega) (mlen_164 hI) eA7 (Or.inl ⟨rfl, by show 0 < ((A 163).getD x1.toInt.toNat 0).toInt; rw [show A 163 = A0 163 from (hF 163 (by decide)), ← ev2]; omega⟩)
        exact ih A7 z8 hIA7 (fun k n164 => (upa_fr eA7 n164).trans ((hF k n164))) (by omega) (by rw [hz8]; exact hw1) (by omega)
set_option maxRecDepth 100000 in
set_option maxHeartbeats 8000000 in
theorem NM_279 {X : pm_X} {d : Nat} {wc : pm_W} {f : Nat → Int32} {A : Nat → List Int32} (hc : wc.length = 147) (hI : MI f A) : pmE pg X pg_tyl pg_cl (d + 1) 279 0 (pm_ent (pm_max pg 279) [.ref 147]) [] (md wc f A) (fun q => ∃ (A' : Nat → List Int32) (r : Int32), q = (some (.int r), md wc f A', 0, 0) ∧ MI f A' ∧ (∀ k : Nat, k ≠ 164 → A' k = A k) ∧ ((((-1) ≤ r.toInt ∧ r.toInt ≤ 9) ∧ (0 ≤ r.toInt → PT A' r.toInt) ∧ True))) := by
  show pmE pg X pg_tyl pg_cl (d + 1) 279 0 [.ref 147, pm_dead, pm_dead, pm_dead] [] (md wc f A) _
  refine pe_iconstv (n := 0) (v := 0) (by decide +kernel) (by decide +kernel) ?_
  refine pe_istore_n (j := 1) (ls' := [.ref 147, .int 0, pm_dead, pm_dead]) (by decide +kernel) (Nat.le_of_ble_eq_true rfl) rfl ?_
  refine NL_279_2 hc (fun A1 y2 hIy3 hFA1 gy2 hp4 => ?_) 11 A 0 hI (fun k _ => rfl) (by decide +kernel) (fun j h0 h1 => absurd h1 (by have h := kz_0; omega)) (by decide +kernel)
  refine pe_iconstv (n := 1) (v := 1) (by decide +kernel) (by decide +kernel) ?_
  refine pe_istore_n (j := 1) (ls' := [.ref 147, .int 1, pm_dead, pm_dead]) (by decide +kernel) (Nat.le_of_ble_eq_true rfl) rfl ?_
  refine NL_279_36 hc (fun A5 y6 u7 u8 hIy9 hFA5 gy6 hp10 => ?_) (fun A11 r12 hIy13 hFA11 gr12 hp14 => ⟨A11, r12, rfl, hIy13, (fun k n164 => ((hFA11 k n164)).trans ((hFA1 k n164))), ⟨(by omega), (fun _ => hp14), trivial⟩⟩) (10 - cnn (A1 164) + (1 : Int32).toInt.toNat + 1) A1 1 (pm_dead) (pm_dead) hIy3 (fun k _ => rfl) (by decide +kernel) (W1_end hp4 (by omega)) (Nat.lt_succ_self _)
  refine pe_iconstv (n := (-1)) (v := (-1)) (by decide +kernel) (by decide +kernel) ?_
  exact pe_iret (by decide +kernel) rfl rfl ⟨A5, (-1), rfl, hIy9, (fun k n164 => ((hFA5 k n164)).trans ((hFA1 k n164))), ⟨(by decide +kernel), (fun h => absurd h (by decide +kernel)), trivial⟩⟩
set_option maxRecDepth 100000 in
set_option maxHeartbeats 8000000 in
theorem NL_278_164 {X : pm_X} {d : Nat} {wc : pm_W} {Q : pm_R → Prop} {f : Nat → Int32} {A : Nat → List Int32} {x1 : Int32} {u4 : Value} (hc : wc.length = 147) (hI : MI f A) (gx1 : ((-1) ≤ x1.toInt ∧ x1.toInt ≤ (-1))) (k_195_0 : ∀ (y2 : Int32) (y3 : Int32), (0 ≤ y2.toInt ∧ y2.toInt ≤ 1) → (10 ≤ y3.toInt ∧ y3.toInt ≤ 10) → (∀ j : Int, (0) ≤ j → j < (10) → (-1000000) ≤ ((A 163).getD j.toNat 0).toInt ∧ ((A 163).getD j.toNat 0).toInt ≤ 1000000) → pmE pg X pg_tyl pg_cl (d + 2) 278 195 [.ref 147, .int x1, .int y2, .int y3, u4] [] (md wc f A) Q) : ∀ (m : Nat) (x2 : Int32) (x3 : Int32), (0 ≤ x2.toInt ∧ x2.toInt ≤ 1) → (0 ≤ x3.toInt ∧ x3.toInt ≤ 10) → (∀ j : Int, (0) ≤ j → j < (10) → (-1000000) ≤ ((A 163).getD j.toNat 0).toInt ∧ ((A 163).getD j.toNat 0).toInt ≤ 1000000) → 10 - x3.toInt < (m : Int) → pmE pg X pg_tyl pg_cl (d + 2) 278 164 [.ref 147, .int x1, .int x2, .int x3, u4] [] (md wc f A) Q := by
  intro m
  induction m with
  | zero =>
    intro x2 x3 gx2 gx3 hv0 hm
    exfalso
    have l0 := zi_lo x3
    have u0 := zi_hi x3
    omega
  | succ m ih =>
    intro x2 x3 gx2 gx3 hv0 hm
    refine pe_iload_n (j := 3) (by decide +kernel) rfl ?_
    refine pe_bipushv (n := 10) (v := 10) (by decide +kernel) (by decide +kernel) ?_
    refine pz_icmp_ge (off := 28) (t := 195) (by decide +kernel) (by decide) rfl rfl kz_10 (fun h1 => ?_) (fun h1 => ?_)
    · skip
      have hq2 : (∀ j : Int, (0) ≤ j → j < (10) → (-1000000) ≤ ((A 163).getD j.toNat 0).toInt ∧ ((A 163).getD j.toNat 0).toInt ≤ 1000000) := by
        intro j h1 h2
        first
        | (exfalso; omega)
        | exact hv0 j (by omega) (by omega)
      exact k_195_0 x2 x3 (by omega) (by omega) hq2
    · skip
      refine pe_iload_n (j := 2) (by decide +kernel) rfl ?_
      refine pz_if_eq (off := 16) (t := 187) (by decide +kernel) (by decide) rfl rfl (fun h3 => ?_) (fun h3 => ?_)
      · skip
        refine pe_iconstv (n := 0) (v := 0) (by decide +kernel) (by decide +kernel) ?_
        refine pe_istore_n (j := 2) (ls' := [.ref 147, .int x1, .int 0, .int x3, u4]) (by decide +kernel) (Nat.le_of_ble_eq_true rfl) rfl ?_
        refine pz_iinc (j := 3) (n := 1) (by decide +kernel) rfl rfl (by decide +kernel) (by omega) (by omega) (fun z4 hz4 => ?_)
        show pmE pg X pg_tyl pg_cl (d + 2) 278 192 [.ref 147, .int x1, .int 0, .int z4, u4] [] (md wc f A) _
        refine pe_goto (off := (-28)) (t := 164) (by decide +kernel) (by decide) rfl ?_
        have hq5 : (∀ j : Int, (0) ≤ j → j < (10) → (-1000000) ≤ ((A 163).getD j.toNat 0).toInt ∧ ((A 163).getD j.toNat 0).toInt ≤ 1000000) := by
          intro j h1 h2
          first
          | (exfalso; omega)
          | exact hv0 j (by omega) (by omega)
        exact ih 0 z4 (by decide +kernel) (by omega) hq5 (by omega)
      · skip
        refine pe_aload_n (j := 0) (by decide +kernel) rfl ?_
        refine pe_get (j := 56) (ci := 12) (n := 28) (by decide +kernel) (by decide +kernel) (md_o hc) rfl ?_
        refine pe_iload_n (j := 3) (by decide +kernel) rfl ?_
        refine pz_iald (by decide +kernel) (md_a163 hc) (mlen_163 hI) rfl (by omega) (by omega) (fun v6 ev6 => ?_)
        have rq7 := hv0 x3.toInt (by omega) (by omega)
        rw [← ev6] at rq7
        refine pz_if_gt (off := 7) (t := 187) (by decide +kernel) (by decide) rfl rfl (fun h8 => ?_) (fun h8 => ?_)
        · skip
          refine pe_iconstv (n := 0) (v := 0) (by decide +kernel) (by decide +kernel) ?_
          refine pe_istore_n (j := 2) (ls' := [.ref 147, .int x1, .int 0, .int x3, u4]) (by decide +kernel) (Nat.le_of_ble_eq_true rfl) rfl ?_
          refine pz_iinc (j := 3) (n := 1) (by decide +kernel) rfl rfl (by decide +kernel) (by omega) (by omega) (fun z9 hz9 => ?_)
          show pmE pg X pg_tyl pg_cl (d + 2) 278 192 [.ref 147, .int x1, .int 0, .int z9, u4] [] (md wc f A) _
          refine pe_goto (off := (-28)) (t := 164) (by decide +kernel) (by decide) rfl ?_
          have hq10 : (∀ j : Int, (0) ≤ j → j < (10) → (-1000000) ≤ ((A 163).getD j.toNat 0).toInt ∧ ((A 163).getD j.toNat 0).toInt ≤ 1000000) := by
            intro j h1 h2
            first
            | (exfalso; omega)
            | exact hv0 j (by omega) (by omega)
            | (by_cases e : (0) ≤ j ∧ j < (10)
               · exact hv0 j e.1 e.2
               · have e3 : j.toNat = (x3.toInt).toNat := by omega
                 rw [e3, ← ev6]; omega)
          exact ih 0 z9 (by decide +kernel) (by omega) hq10 (by omega)
        · skip
          refine pe_iconstv (n := 1) (v := 1) (by decide +kernel) (by decide +kernel) ?_
          refine pe_goto (off := 4) (t := 188) (by decide +kernel) (by decide) rfl ?_
          refine pe_istore_n (j := 2) (ls' := [.ref 147, .int x1, .int 1, .int x3, u4]) (by decide +kernel) (Nat.le_of_ble_eq_true rfl) rfl ?_
          refine pz_iinc (j := 3) (n := 1) (by decide +kernel) rfl rfl (by decide +kernel) (by omega) (by omega) (fun z11 hz11 => ?_)
          show pmE pg X pg_tyl pg_cl (d + 2) 278 192 [.ref 147, .int x1, .int 1, .int z11, u4] [] (md wc f A) _
          refine pe_goto (off := (-28)) (t := 164) (by decide +kernel) (by decide) rfl ?_
          have hq12 : (∀ j : Int, (0) ≤ j → j < (10) → (-1000000) ≤ ((A 163).getD j.toNat 0).toInt ∧ ((A 163).getD j.toNat 0).toInt ≤ 1000000) := by
            intro j h1 h2
            first
            | (exfalso; omega)
            | exact hv0 j (by omega) (by omega)
            | (by_cases e : (0) ≤ j ∧ j < (10)
               · exact hv0 j e.1 e.2
               · have e3 : j.toNat = (x3.toInt).toNat := by omega
                 rw [e3, ← ev6]; omega)
          exact ih 1 z11 (by decide +kernel) (by omega) hq12 (by omega)
set_option maxRecDepth 100000 in
set_option maxHeartbeats 8000000 in
theorem NL_278_114 {X : pm_X} {d : Nat} {wc : pm_W} {Q : pm_R → Prop} {f : Nat → Int32} {A0 : Nat → List Int32} {x1 x2 x3 : Int32} {rk : Nat → Nat} (hc : wc.length = 147) (gx1 : (0 ≤ x1.toInt ∧ x1.toInt ≤ 9)) (gx2 : (1 ≤ x2.toInt ∧ x2.toInt ≤ 1000000)) (gx3 : (0 ≤ x3.toInt ∧ x3.toInt ≤ 9)) (hpk0 : WR (A0 164) rk) (k_152_0 : ∀ (A' : Nat → List Int32) (y4 : Int32), MI f A' → (∀ k : Nat, k ≠ 162 → A' k = A0 k) → (0 ≤ y4.toInt ∧ y4.toInt ≤ 9) → 0 ≤ fr (A0 164) y4.toInt → pmE pg X pg_tyl pg_cl (d + 2) 278 152 [.ref 147, .int x1, .int x2, .int x3, .int y4] [] (md wc f A') Q) : ∀ (m : Nat) (A : Nat → List Int32) (x4 : Int32), MI f A → (∀ k : Nat, k ≠ 162 → A k = A0 k) → (0 ≤ x4.toInt ∧ x4.toInt ≤ 9) → 0 ≤ fr (A0 164) x4.toInt → rk x4.toInt.toNat < m → pmE pg X pg_tyl pg_cl (d + 2) 278 114 [.ref 147, .int x1, .int x2, .int x3, .int x4] [] (md wc f A) Q := by
  intro m
  induction m with
  | zero =>
    intro A x4 hI hF gx4 hpi0 hm
    exfalso
    exact absurd hm (Nat.not_lt_zero _)
  | succ m ih =>
    intro A x4 hI hF gx4 hpi0 hm
    refine pe_aload_n (j := 0) (by decide +kernel) rfl ?_
    refine pe_get (j := 59) (ci := 12) (n := 29) (by decide +kernel) (by decide +kernel) (md_o hc) rfl ?_
    refine pe_iload (j := 4) (by decide +kernel) rfl ?_
    refine pz_iald (by decide +kernel) (md_a164 hc) (mlen_164 hI) rfl (by omega) (by omega) (fun v1 ev1 => ?_)
    have rv1 : (-1) ≤ v1.toInt ∧ v1.toInt ≤ 9 := mp_164 hI ev1
    rw [show A 164 = A0 164 from (hF 164 (by decide))] at ev1
    refine pe_iload (j := 4) (by decide +kernel) rfl ?_
    refine pz_icmp_eq (off := 29) (t := 152) (by decide +kernel) (by decide) rfl rfl rfl (fun h2 => ?_) (fun h2 => ?_)
    · skip
      exact k_152_0 A x4 hI (fun k n162 => (hF k n162)) (by omega) hpi0
    · skip
      have hv0 : 0 ≤ v1.toInt := by rw [ev1]; exact hpi0
      have hw3 := WR_ne hpk0 (by omega) (by omega) hpi0 (by show ((A0 164).getD x4.toInt.toNat 0).toInt ≠ x4.toInt; rw [← ev1]; omega)
      rw [show fr (A0 164) x4.toInt = v1.toInt from congrArg Int32.toInt ev1.symm] at hw3
      refine pe_aload_n (j := 0) (by decide +kernel) rfl ?_
      refine pe_aload_n (j := 0) (by decide +kernel) rfl ?_
      refine pe_get (j := 59) (ci := 12) (n := 29) (by decide +kernel) (by decide +kernel) (md_o hc) rfl ?_
      refine pe_iload (j := 4) (by decide +kernel) rfl ?_
      refine pz_iald (by decide +kernel) (md_a164 hc) (mlen_164 hI) rfl (by omega) (by omega) (fun v4 ev4 => ?_)
      rw [show A 164 = A0 164 from (hF 164 (by decide))] at ev4
      rw [ev4.trans ev1.symm]
      clear ev4 v4
      refine pe_iload (j := 4) (by decide +kernel) rfl ?_
      refine pe_iload_n (j := 2) (by decide +kernel) rfl ?_
      refine pz_callV (j := 320) (mj := 281) (by decide +kernel) (cll_V (args := [.int x2, .int x4, .int v1]) (n := 3) (by decide +kernel) rfl rfl (md_o hc) (by decide +kernel) (Nat.le_of_ble_eq_true rfl) (Nat.le_of_ble_eq_true rfl)) (NM_281 hc hI (by omega) (by omega)) (fun q5a q5b q5c q5d hqq5 => ?_)
      obtain ⟨A6, eq5, hIq5, hFq5, kq5⟩ := hqq5
      cases eq5
      refine ⟨rfl, rfl, ?_⟩
      show pmE pg X pg_tyl pg_cl (d + 2) 278 140 [.ref 147, .int x1, .int x2, .int x3, .int x4] [] (md wc f A6) _
      refine pe_aload_n (j := 0) (by decide +kernel) rfl ?_
      refine pe_get (j := 59) (ci := 12) (n := 29) (by decide +kernel) (by decide +kernel) (md_o hc) rfl ?_
      refine pe_iload (j := 4) (by decide +kernel) rfl ?_
      refine pz_iald (by decide +kernel) (md_a164 hc) (mlen_164 hIq5) rfl (by omega) (by omega) (fun v7 ev7 => ?_)
      rw [show A6 164 = A0 164 from ((hFq5 164 (by decide))).trans ((hF 164 (by decide)))] at ev7
      rw [ev7.trans ev1.symm]
      clear ev7 v7
      refine pe_istore (j := 4) (ls' := [.ref 147, .int x1, .int x2, .int x3, .int v1]) (by decide +kernel) (Nat.le_of_ble_eq_true rfl) rfl ?_
      refine pe_goto (off := (-35)) (t := 114) (by decide +kernel) (by decide) rfl ?_
      exact ih A6 v1 hIq5 (fun k n162 => ((hFq5 k n162)).trans ((hF k n162))) (by omega) hw3.1 (Nat.lt_of_lt_of_le hw3.2 (Nat.le_of_lt_succ hm))
set_option maxRecDepth 100000 in
set_option maxHeartbeats 8000000 in
theorem NL_278_19 {X : pm_X} {d : Nat} {wc : pm_W} {Q : pm_R → Prop} {f : Nat → Int32} {A : Nat → List Int32} {x1 : Int32} {u4 : Value} {rk : Nat → Nat} (hc : wc.length = 147) (hI : MI f A) (gx1 : (0 ≤ x1.toInt ∧ x1.toInt ≤ 9)) (hpk0 : ∀ b : Int, 0 ≤ b → b ≤ 9 → WN A rk b) (k_70_0 : ∀ (y2 : Int32) (y3 : Int32), (1 ≤ y2.toInt ∧ y2.toInt ≤ 1000000) → (0 ≤ y3.toInt ∧ y3.toInt ≤ 9) → 0 ≤ fr (A 164) y3.toInt → y2.toInt ≤ -fr (A 163) x1.toInt → 0 < fr (A 163) y3.toInt → pmE pg X pg_tyl pg_cl (d + 2) 278 70 [.ref 147, .int x1, .int y2, .int y3, u4] [] (md wc f A) Q) : ∀ (m : Nat) (x2 : Int32) (x3 : Int32), (1 ≤ x2.toInt ∧ x2.toInt ≤ 1000000) → (0 ≤ x3.toInt ∧ x3.toInt ≤ 9) → 0 ≤ fr (A 164) x3.toInt → x2.toInt ≤ -fr (A 163) x1.toInt → rk x3.toInt.toNat < m → pmE pg X pg_tyl pg_cl (d + 2) 278 19 [.ref 147, .int x1, .int x2, .int x3, u4] [] (md wc f A) Q := by
  intro m
  induction m with
  | zero =>
    intro x2 x3 gx2 gx3 hpi0 hpi1 hm
    exfalso
    exact absurd hm (Nat.not_lt_zero _)
  | succ m ih =>
    intro x2 x3 gx2 gx3 hpi0 hpi1 hm
    refine pe_aload_n (j := 0) (by decide +kernel) rfl ?_
    refine pe_get (j := 59) (ci := 12) (n := 29) (by decide +kernel) (by decide +kernel) (md_o hc) rfl ?_
    refine pe_iload_n (j := 3) (by decide +kernel) rfl ?_
    refine pz_iald (by decide +kernel) (md_a164 hc) (mlen_164 hI) rfl (by omega) (by omega) (fun v1 ev1 => ?_)
    have rv1 : (-1) ≤ v1.toInt ∧ v1.toInt ≤ 9 := mp_164 hI ev1
    refine pe_iload_n (j := 3) (by decide +kernel) rfl ?_
    refine pz_icmp_eq (off := 44) (t := 70) (by decide +kernel) (by decide) rfl rfl rfl (fun h2 => ?_) (fun h2 => ?_)
    · skip
      exact k_70_0 x2 x3 (by omega) (by omega) hpi0 (by omega) (WN_eq (hpk0 x3.toInt (by omega) (by omega)) hpi0 (by show ((A 164).getD x3.toInt.toNat 0).toInt = x3.toInt; rw [← ev1]; omega))
    · skip
      have hv0 : 0 ≤ v1.toInt := by rw [ev1]; exact hpi0
      have hw3 := WN_ne (hpk0 x3.toInt (by omega) (by omega)) hpi0 (by show ((A 164).getD x3.toInt.toNat 0).toInt ≠ x3.toInt; rw [← ev1]; omega)
      rw [show fr (A 164) x3.toInt = v1.toInt from congrArg Int32.toInt ev1.symm] at hw3
      refine pe_aload_n (j := 0) (by decide +kernel) rfl ?_
      refine pe_aload_n (j := 0) (by decide +kernel) rfl ?_
      refine pe_get (j := 59) (ci := 12) (n := 29) (by decide +kernel) (by decide +kernel) (md_o hc) rfl ?_
      refine pe_iload_n (j := 3) (by decide +kernel) rfl ?_
      refine pz_iald (by decide +kernel) (md_a164 hc) (mlen_164 hI) rfl (by omega) (by omega) (fun v4 ev4 => ?_)
      rw [ev4.trans ev1.symm]
      clear ev4 v4
      refine pe_iload_n (j := 3) (by decide +kernel) rfl ?_
      refine pz_callV (j := 314) (mj := 280) (by decide +kernel) (cll_V (args := [.int x3, .int v1]) (n := 2) (by decide +kernel) rfl rfl (md_o hc) (by decide +kernel) (Nat.le_of_ble_eq_true rfl) (Nat.le_of_ble_eq_true rfl)) (NM_280 hc hI (by omega) (by omega)) (fun q5a q5b q5c q5d hqq5 => ?_)
      obtain ⟨rq5, eq5, kq5⟩ := hqq5
      cases eq5
      refine ⟨rfl, rfl, ?_⟩
      obtain ⟨kfq5, kq5⟩ := kq5
      obtain ⟨hp6, kq5⟩ := kq5
      have hsp7 : 0 < rq5.toInt := by rw [hp6]; exact hw3.2.2
      show pmE pg X pg_tyl pg_cl (d + 2) 278 40 [.ref 147, .int x1, .int x2, .int x3, u4] [.int rq5] (md wc f A) _
      refine pe_iload_n (j := 2) (by decide +kernel) rfl ?_
      have lw9 := zi_lo rq5
      have uw9 := zi_hi rq5
      refine pz_icmp_ge (off := 17) (t := 58) (by decide +kernel) (by decide) rfl rfl rfl (fun h8 => ?_) (fun h8 => ?_)
      · skip
        refine pe_iload_n (j := 2) (by decide +kernel) rfl ?_
        refine pe_istore_n (j := 2) (ls' := [.ref 147, .int x1, .int x2, .int x3, u4]) (by decide +kernel) (Nat.le_of_ble_eq_true rfl) rfl ?_
        refine pe_aload_n (j := 0) (by decide +kernel) rfl ?_
        refine pe_get (j := 59) (ci := 12) (n := 29) (by decide +kernel) (by decide +kernel) (md_o hc) rfl ?_
        refine pe_iload_n (j := 3) (by decide +kernel) rfl ?_
        refine pz_iald (by decide +kernel) (md_a164 hc) (mlen_164 hI) rfl (by omega) (by omega) (fun v10 ev10 => ?_)
        rw [ev10.trans ev1.symm]
        clear ev10 v10
        refine pe_istore_n (j := 3) (ls' := [.ref 147, .int x1, .int x2, .int v1, u4]) (by decide +kernel) (Nat.le_of_ble_eq_true rfl) rfl ?_
        refine pe_goto (off := (-48)) (t := 19) (by decide +kernel) (by decide) rfl ?_
        exact ih x2 v1 (by omega) (by omega) hw3.1 (by omega) (Nat.lt_of_lt_of_le hw3.2.1 (Nat.le_of_lt_succ hm))
      · skip
        refine pe_aload_n (j := 0) (by decide +kernel) rfl ?_
        refine pe_aload_n (j := 0) (by decide +kernel) rfl ?_
        refine pe_get (j := 59) (ci := 12) (n := 29) (by decide +kernel) (by decide +kernel) (md_o hc) rfl ?_
        refine pe_iload_n (j := 3) (by decide +kernel) rfl ?_
        refine pz_iald (by decide +kernel) (md_a164 hc) (mlen_164 hI) rfl (by omega) (by omega) (fun v11 ev11 => ?_)
        rw [ev11.trans ev1.symm]
        clear ev11 v11
        refine pe_iload_n (j := 3) (by decide +kernel) rfl ?_
        refine pz_callV (j := 314) (mj := 280) (by decide +kernel) (cll_V (args := [.int x3, .int v1]) (n := 2) (by decide +kernel) rfl rfl (md_o hc) (by decide +kernel) (Nat.le_of_ble_eq_true rfl) (Nat.le_of_ble_eq_true rfl)) (NM_280 hc hI (by omega) (by omega)) (fun q12a q12b q12c q12d hqq12 => ?_)
        obtain ⟨rq12, eq12, kq12⟩ := hqq12
        cases eq12
        refine ⟨rfl, rfl, ?_⟩
        obtain ⟨kfq12, kq12⟩ := kq12
        obtain ⟨hp13, kq12⟩ := kq12
        have hsp14 : 0 < rq12.toInt := by rw [hp13]; exact hw3.2.2
        have hsp15 : rq12.toInt = rq5.toInt := by rw [hp13, hp6]
        show pmE pg X pg_tyl pg_cl (d + 2) 278 55 [.ref 147, .int x1, .int x2, .int x3, u4] [.int rq12] (md wc f A) _
        refine pe_goto (off := 4) (t := 59) (by decide +kernel) (by decide) rfl ?_
        refine pe_istore_n (j := 2) (ls' := [.ref 147, .int x1, .int rq12, .int x3, u4]) (by decide +kernel) (Nat.le_of_ble_eq_true rfl) rfl ?_
        refine pe_aload_n (j := 0) (by decide +kernel) rfl ?_
        refine pe_get (j := 59) (ci := 12) (n := 29) (by decide +kernel) (by decide +kernel) (md_o hc) rfl ?_
        refine pe_iload_n (j := 3) (by decide +kernel) rfl ?_
        refine pz_iald (by decide +kernel) (md_a164 hc) (mlen_164 hI) rfl (by omega) (by omega) (fun v16 ev16 => ?_)
        rw [ev16.trans ev1.symm]
        clear ev16 v16
        refine pe_istore_n (j := 3) (ls' := [.ref 147, .int x1, .int rq12, .int v1, u4]) (by decide +kernel) (Nat.le_of_ble_eq_true rfl) rfl ?_
        refine pe_goto (off := (-48)) (t := 19) (by decide +kernel) (by decide) rfl ?_
        exact ih rq12 v1 (by omega) (by omega) hw3.1 (by omega) (Nat.lt_of_lt_of_le hw3.2.1 (Nat.le_of_lt_succ hm))
set_option maxRecDepth 100000 in
set_option maxHeartbeats 8000000 in
theorem NL_278_5 {X : pm_X} {d : Nat} {wc : pm_W} {Q : pm_R → Prop} {f : Nat → Int32} {A0 : Nat → List Int32} (hc : wc.length = 147) (k_160_0 : ∀ (A' : Nat → List Int32) (y1 : Int32) (v2 : Value) (v3 : Value) (v4 : Value), MI f A' → (∀ k : Nat, k ≠ 162 → k ≠ 163 → k ≠ 164 → A' k = A0 k) → ((-1) ≤ y1.toInt ∧ y1.toInt ≤ (-1)) → (∀ j : Int, (0) ≤ j → j < (10) → (-1000000) ≤ ((A' 163).getD j.toNat 0).toInt ∧ ((A' 163).getD j.toNat 0).toInt ≤ 1000000) → (0 ≤ y1.toInt → PT A' y1.toInt) → pmE pg X pg_tyl pg_cl (d + 2) 278 160 [.ref 147, .int y1, v2, v3, v4] [] (md wc f A') Q) : ∀ (m : Nat) (A : Nat → List Int32) (x1 : Int32) (u2 : Value) (u3 : Value) (u4 : Value), MI f A → (∀ k : Nat, k ≠ 162 → k ≠ 163 → k ≠ 164 → A k = A0 k) → ((-1) ≤ x1.toInt ∧ x1.toInt ≤ 9) → (∀ j : Int, (0) ≤ j → j < (10) → (-1000000) ≤ ((A 163).getD j.toNat 0).toInt ∧ ((A 163).getD j.toNat 0).toInt ≤ 1000000) → (0 ≤ x1.toInt → PT A x1.toInt) → ps (A 163) < m → pmE pg X pg_tyl pg_cl (d + 2) 278 5 [.ref 147, .int x1, u2, u3, u4] [] (md wc f A) Q := by
  intro m
  induction m with
  | zero =>
    intro A x1 u2 u3 u4 hI hF gx1 hv0 hpi0 hm
    exfalso
    exact absurd hm (Nat.not_lt_zero _)
  | succ m ih =>
    intro A x1 u2 u3 u4 hI hF gx1 hv0 hpi0 hm
    refine pe_iload_n (j := 1) (by decide +kernel) rfl ?_
    refine pz_if_lt (off := 154) (t := 160) (by decide +kernel) (by decide) rfl rfl (fun h1 => ?_) (fun h1 => ?_)
    · skip
      have hq2 : (∀ j : Int, (0) ≤ j → j < (10) → (-1000000) ≤ ((A 163).getD j.toNat 0).toInt ∧ ((A 163).getD j.toNat 0).toInt ≤ 1000000) := by
        intro j h1 h2
        first
        | (exfalso; omega)
        | exact hv0 j (by omega) (by omega)
      exact k_160_0 A x1 (u2) (u3) (u4) hI (fun k n162 n163 n164 => (hF k n162 n163 n164)) (by omega) hq2 hpi0
    · skip
      obtain ⟨hto, hfr, rk, hrk⟩ := hpi0 (by omega)
      refine pe_aload_n (j := 0) (by decide +kernel) rfl ?_
      refine pe_get (j := 56) (ci := 12) (n := 28) (by decide +kernel) (by decide +kernel) (md_o hc) rfl ?_
      refine pe_iload_n (j := 1) (by decide +kernel) rfl ?_
      refine pz_iald (by decide +kernel) (md_a163 hc) (mlen_163 hI) rfl (by omega) (by omega) (fun v3 ev3 => ?_)
      have rq4 := hv0 x1.toInt (by omega) (by omega)
      rw [← ev3] at rq4
      have hneg5 : v3.toInt < 0 := by rw [ev3]; exact hto
      refine pz_neg (by decide +kernel) rfl (by omega) (by omega) (fun z6 hz6 => ?_)
      refine pe_istore_n (j := 2) (ls' := [.ref 147, .int x1, .int z6, u3, u4]) (by decide +kernel) (Nat.le_of_ble_eq_true rfl) rfl ?_
      refine pe_iload_n (j := 1) (by decide +kernel) rfl ?_
      refine pe_istore_n (j := 3) (ls' := [.ref 147, .int x1, .int z6, .int x1, u4]) (by decide +kernel) (Nat.le_of_ble_eq_true rfl) rfl ?_
      refine NL_278_19 (rk := rk) hc hI (by omega) hrk (fun y7 y8 gy7 gy8 hp9 hp10 hp11 => ?_) (rk x1.toInt.toNat + 1) z6 x1 (by omega) (by omega) hfr (by show _ ≤ -((A 163).getD x1.toInt.toNat 0).toInt; rw [← ev3]; omega) (Nat.lt_succ_self _)
      refine pe_aload_n (j := 0) (by decide +kernel) rfl ?_
      refine pe_get (j := 56) (ci := 12) (n := 28) (by decide +kernel) (by decide +kernel) (md_o hc) rfl ?_
      refine pe_iload_n (j := 3) (by decide +kernel) rfl ?_
      refine pz_iald (by decide +kernel) (md_a163 hc) (mlen_163 hI) rfl (by omega) (by omega) (fun v12 ev12 => ?_)
      have rq13 := hv0 y8.toInt (by omega) (by omega)
      rw [← ev12] at rq13
      have hpos14 : 0 < v12.toInt := by rw [ev12]; exact hp11
      have hle16 : y7.toInt ≤ -v3.toInt := by rw [ev3]; exact hp10
      have hne15 : y8.toInt ≠ x1.toInt := by
        intro h
        have h2 : v12 = v3 := by rw [ev12, ev3, h]
        rw [h2] at hpos14
        omega
      refine pe_iload_n (j := 2) (by decide +kernel) rfl ?_
      refine pz_icmp_ge (off := 12) (t := 89) (by decide +kernel) (by decide) rfl rfl rfl (fun h17 => ?_) (fun h17 => ?_)
      · skip
        refine pe_iload_n (j := 2) (by decide +kernel) rfl ?_
        refine pe_istore_n (j := 2) (ls' := [.ref 147, .int x1, .int y7, .int y8, u4]) (by decide +kernel) (Nat.le_of_ble_eq_true rfl) rfl ?_
        refine pe_aload_n (j := 0) (by decide +kernel) rfl ?_
        refine pe_get (j := 56) (ci := 12) (n := 28) (by decide +kernel) (by decide +kernel) (md_o hc) rfl ?_
        refine pe_iload_n (j := 3) (by decide +kernel) rfl ?_
        refine pe_dup2 (by decide +kernel) ⟨rfl, rfl⟩ ?_
        refine pz_iald (by decide +kernel) (md_a163 hc) (mlen_163 hI) rfl (by omega) (by omega) (fun v18 ev18 => ?_)
        rw [ev18.trans ev12.symm]
        clear ev18 v18
        refine pe_iload_n (j := 2) (by decide +kernel) rfl ?_
        refine pz_sub (by decide +kernel) rfl rfl (by omega) (by omega) (fun z19 hz19 => ?_)
        refine mz_st163 (by decide +kernel) hc hI rfl (by omega) (by omega) (fun A20 eA20 hIA20 => ?_)
        have hq21 : (∀ j : Int, (0) ≤ j → j < (10) → (-1000000) ≤ ((A20 163).getD j.toNat 0).toInt ∧ ((A20 163).getD j.toNat 0).toInt ≤ 1000000) := by
          intro j h1 h2
          first
          | (exfalso; omega)
          | (by_cases e : (y8.toInt).toNat = j.toNat
             · rw [upa_at eA20, ← e, gz_eq (by rw [(mlen_163 hI)]; omega)]; omega
             · rw [upa_at eA20, gz_ne e]; exact hv0 j (by omega) (by omega))
        refine pe_aload_n (j := 0) (by decide +kernel) rfl ?_
        refine pe_get (j := 56) (ci := 12) (n := 28) (by decide +kernel) (by decide +kernel) (md_o hc) rfl ?_
        refine pe_iload_n (j := 1) (by decide +kernel) rfl ?_
        refine pe_dup2 (by decide +kernel) ⟨rfl, rfl⟩ ?_
        refine pz_iald (by decide +kernel) (md_a163 hc) (mlen_163 hIA20) rfl (by omega) (by omega) (fun v22 ev22 => ?_)
        have rq23 := hq21 x1.toInt (by omega) (by omega)
        rw [← ev22] at rq23
        have hsame24 : v22.toInt = v3.toInt := by rw [ev22, upa_at eA20, gz_ne (by omega), ev3]
        refine pe_iload_n (j := 2) (by decide +kernel) rfl ?_
        refine pz_add (by decide +kernel) rfl rfl (by omega) (by omega) (fun z25 hz25 => ?_)
        refine mz_st163 (by decide +kernel) hc hIA20 rfl (by omega) (by omega) (fun A26 eA26 hIA26 => ?_)
        have hq27 : (∀ j : Int, (0) ≤ j → j < (10) → (-1000000) ≤ ((A26 163).getD j.toNat 0).toInt ∧ ((A26 163).getD j.toNat 0).toInt ≤ 1000000) := by
          intro j h1 h2
          first
          | (exfalso; omega)
          | (by_cases e : (x1.toInt).toNat = j.toNat
             · rw [upa_at eA26, ← e, gz_eq (by rw [(mlen_163 hIA20)]; omega)]; omega
             · rw [upa_at eA26, gz_ne e]; exact hq21 j (by omega) (by omega))
        have hps28 : ps (A26 163) < ps (A 163) := by rw [upa_at eA26, upa_at eA20]; exact ps_two (mlen_163 hI) (by omega) (by omega) (by omega) (by omega) hne15 (by omega) (by show _ < ((A 163).getD y8.toInt.toNat 0).toInt; rw [← ev12]; omega) (by show ((A 163).getD x1.toInt.toNat 0).toInt < 0; rw [← ev3]; omega) (by omega)
        refine pe_iload_n (j := 1) (by decide +kernel) rfl ?_
        refine pe_istore (j := 4) (ls' := [.ref 147, .int x1, .int y7, .int y8, .int x1]) (by decide +kernel) (Nat.le_of_ble_eq_true rfl) rfl ?_
        have h429 : A26 164 = A 164 := (upa_fr eA26 (by decide)).trans (upa_fr eA20 (by decide))
        refine NL_278_114 (rk := rk) hc (by omega) (by omega) (by omega) (by rw [h429]; exact WR_of hrk) (fun A30 y31 hIy32 hFA30 gy31 hp33 => ?_) (rk x1.toInt.toNat + 1) A26 x1 hIA26 (fun k _ => rfl) (by omega) (by rw [h429]; exact hfr) (Nat.lt_succ_self _)
        refine pe_aload_n (j := 0) (by decide +kernel) rfl ?_
        refine pz_callV (j := 317) (mj := 279) (by decide +kernel) (cll_V (args := []) (n := 0) (by decide +kernel) rfl rfl (md_o hc) (by decide +kernel) (Nat.le_of_ble_eq_true rfl) (Nat.le_of_ble_eq_true rfl)) (NM_279 hc hIy32) (fun q34a q34b q34c q34d hqq34 => ?_)
        obtain ⟨A35, rq34, eq34, hIq34, hFq34, kq34⟩ := hqq34
        cases eq34
        refine ⟨rfl, rfl, ?_⟩
        obtain ⟨kfq34, kq34⟩ := kq34
        obtain ⟨hp36, kq34⟩ := kq34
        show pmE pg X pg_tyl pg_cl (d + 2) 278 156 [.ref 147, .int x1, .int y7, .int y8, .int y31] [.int rq34] (md wc f A35) _
        refine pe_istore_n (j := 1) (ls' := [.ref 147, .int rq34, .int y7, .int y8, .int y31]) (by decide +kernel) (Nat.le_of_ble_eq_true rfl) rfl ?_
        refine pe_goto (off := (-152)) (t := 5) (by decide +kernel) (by decide) rfl ?_
        have hq37 : (∀ j : Int, (0) ≤ j → j < (10) → (-1000000) ≤ ((A35 163).getD j.toNat 0).toInt ∧ ((A35 163).getD j.toNat 0).toInt ≤ 1000000) := by
          intro j h1 h2
          rw [show A35 163 = A26 163 from ((hFq34 163 (by decide))).trans ((hFA30 163 (by decide)))]
          first
          | (exfalso; omega)
          | exact hq27 j (by omega) (by omega)
          | (by_cases e : (x1.toInt).toNat = j.toNat
             · rw [upa_at eA26, ← e, gz_eq (by rw [(mlen_163 hIA20)]; omega)]; omega
             · rw [upa_at eA26, gz_ne e]; exact hq21 j (by omega) (by omega))
        exact ih A35 rq34 (.int y7) (.int y8) (.int y31) hIq34 (fun k n162 n163 n164 => ((hFq34 k n164)).trans (((hFA30 k n162)).trans ((upa_fr eA26 n163).trans ((upa_fr eA20 n163).trans ((hF k n162 n163 n164)))))) (by omega) hq37 hp36 (by rw [show A35 163 = A26 163 from ((hFq34 163 (by decide))).trans ((hFA30 163 (by decide)))]; exact Nat.lt_of_lt_of_le hps28 (Nat.le_of_lt_succ hm))
      · skip
        refine pe_aload_n (j := 0) (by decide +kernel) rfl ?_
        refine pe_get (j := 56) (ci := 12) (n := 28) (by decide +kernel) (by decide +kernel) (md_o hc) rfl ?_
        refine pe_iload_n (j := 3) (by decide +kernel) rfl ?_
        refine pz_iald (by decide +kernel) (md_a163 hc) (mlen_163 hI) rfl (by omega) (by omega) (fun v38 ev38 => ?_)
        rw [ev38.trans ev12.symm]
        clear ev38 v38
        refine pe_goto (off := 4) (t := 90) (by decide +kernel) (by decide) rfl ?_
        refine pe_istore_n (j := 2) (ls' := [.ref 147, .int x1, .int v12, .int y8, u4]) (by decide +kernel) (Nat.le_of_ble_eq_true rfl) rfl ?_
        refine pe_aload_n (j := 0) (by decide +kernel) rfl ?_
        refine pe_get (j := 56) (ci := 12) (n := 28) (by decide +kernel) (by decide +kernel) (md_o hc) rfl ?_
        refine pe_iload_n (j := 3) (by decide +kernel) rfl ?_
        refine pe_dup2 (by decide +kernel) ⟨rfl, rfl⟩ ?_
        refine pz_iald (by decide +kernel) (md_a163 hc) (mlen_163 hI) rfl (by omega) (by omega) (fun v39 ev39 => ?_)
        rw [ev39.trans ev12.symm]
        clear ev39 v39
        refine pe_iload_n (j := 2) (by decide +kernel) rfl ?_
        refine pz_sub (by decide +kernel) rfl rfl (by omega) (by omega) (fun z40 hz40 => ?_)
        refine mz_st163 (by decide +kernel) hc hI rfl (by omega) (by omega) (fun A41 eA41 hIA41 => ?_)
        have hq42 : (∀ j : Int, (0) ≤ j → j < (10) → (-1000000) ≤ ((A41 163).getD j.toNat 0).toInt ∧ ((A41 163).getD j.toNat 0).toInt ≤ 1000000) := by
          intro j h1 h2
          first
          | (exfalso; omega)
          | (by_cases e : (y8.toInt).toNat = j.toNat
             · rw [upa_at eA41, ← e, gz_eq (by rw [(mlen_163 hI)]; omega), hz40]; omega
             · rw [upa_at eA41, gz_ne e]; exact hv0 j (by omega) (by omega))
        refine pe_aload_n (j := 0) (by decide +kernel) rfl ?_
        refine pe_get (j := 56) (ci := 12) (n := 28) (by decide +kernel) (by decide +kernel) (md_o hc) rfl ?_
        refine pe_iload_n (j := 1) (by decide +kernel) rfl ?_
        refine pe_dup2 (by decide +kernel) ⟨rfl, rfl⟩ ?_
        refine pz_iald (by decide +kernel) (md_a163 hc) (mlen_163 hIA41) rfl (by omega) (by omega) (fun v43 ev43 => ?_)
        have rq44 := hq42 x1.toInt (by omega) (by omega)
        rw [← ev43] at rq44
        have hsame45 : v43.toInt = v3.toInt := by rw [ev43, upa_at eA41, gz_ne (by omega), ev3]
        refine pe_iload_n (j := 2) (by decide +kernel) rfl ?_
        refine pz_add (by decide +kernel) rfl rfl (by omega) (by omega) (fun z46 hz46 => ?_)
        refine mz_st163 (by decide +kernel) hc hIA41 rfl (by omega) (by omega) (fun A47 eA47 hIA47 => ?_)
        have hq48 : (∀ j : Int, (0) ≤ j → j < (10) → (-1000000) ≤ ((A47 163).getD j.toNat 0).toInt ∧ ((A47 163).getD j.toNat 0).toInt ≤ 1000000) := by
          intro j h1 h2
          first
          | (exfalso; omega)
          | (by_cases e : (x1.toInt).toNat = j.toNat
             · rw [upa_at eA47, ← e, gz_eq (by rw [(mlen_163 hIA41)]; omega)]; omega
             · rw [upa_at eA47, gz_ne e]; exact hq42 j (by omega) (by omega))
        have hps49 : ps (A47 163) < ps (A 163) := by rw [upa_at eA47, upa_at eA41]; exact ps_two (mlen_163 hI) (by omega) (by omega) (by omega) (by omega) hne15 (by omega) (by show _ < ((A 163).getD y8.toInt.toNat 0).toInt; rw [← ev12]; omega) (by show ((A 163).getD x1.toInt.toNat 0).toInt < 0; rw [← ev3]; omega) (by omega)
        refine pe_iload_n (j := 1) (by decide +kernel) rfl ?_
        refine pe_istore (j := 4) (ls' := [.ref 147, .int x1, .int v12, .int y8, .int x1]) (by decide +kernel) (Nat.le_of_ble_eq_true rfl) rfl ?_
        have h450 : A47 164 = A 164 := (upa_fr eA47 (by decide)).trans (upa_fr eA41 (by decide))
        refine NL_278_114 (rk := rk) hc (by omega) (by omega) (by omega) (by rw [h450]; exact WR_of hrk) (fun A51 y52 hIy53 hFA51 gy52 hp54 => ?_) (rk x1.toInt.toNat + 1) A47 x1 hIA47 (fun k _ => rfl) (by omega) (by rw [h450]; exact hfr) (Nat.lt_succ_self _)
        refine pe_aload_n (j := 0) (by decide +kernel) rfl ?_
        refine pz_callV (j := 317) (mj := 279) (by decide +kernel) (cll_V (args := []) (n := 0) (by decide +kernel) rfl rfl (md_o hc) (by decide +kernel) (Nat.le_of_ble_eq_true rfl) (Nat.le_of_ble_eq_true rfl)) (NM_279 hc hIy53) (fun q55a q55b q55c q55d hqq55 => ?_)
        obtain ⟨A56, rq55, eq55, hIq55, hFq55, kq55⟩ := hqq55
        cases eq55
        refine ⟨rfl, rfl, ?_⟩
        obtain ⟨kfq55, kq55⟩ := kq55
        obtain ⟨hp57, kq55⟩ := kq55
        show pmE pg X pg_tyl pg_cl (d + 2) 278 156 [.ref 147, .int x1, .int v12, .int y8, .int y52] [.int rq55] (md wc f A56) _
        refine pe_istore_n (j := 1) (ls' := [.ref 147, .int rq55, .int v12, .int y8, .int y52]) (by decide +kernel) (Nat.le_of_ble_eq_true rfl) rfl ?_
        refine pe_goto (off := (-152)) (t := 5) (by decide +kernel) (by decide) rfl ?_
        have hq58 : (∀ j : Int, (0) ≤ j → j < (10) → (-1000000) ≤ ((A56 163).getD j.toNat 0).toInt ∧ ((A56 163).getD j.toNat 0).toInt ≤ 1000000) := by
          intro j h1 h2
          rw [show A56 163 = A47 163 from ((hFq55 163 (by decide))).trans ((hFA51 163 (by decide)))]
          first
          | (exfalso; omega)
          | exact hq48 j (by omega) (by omega)
          | (by_cases e : (x1.toInt).toNat = j.toNat
             · rw [upa_at eA47, ← e, gz_eq (by rw [(mlen_163 hIA41)]; omega)]; omega
             · rw [upa_at eA47, gz_ne e]; exact hq42 j (by omega) (by omega))
        exact ih A56 rq55 (.int v12) (.int y8) (.int y52) hIq55 (fun k n162 n163 n164 => ((hFq55 k n164)).trans (((hFA51 k n162)).trans ((upa_fr eA47 n163).trans ((upa_fr eA41 n163).trans ((hF k n162 n163 n164)))))) (by omega) hq58 hp57 (by rw [show A56 163 = A47 163 from ((hFq55 163 (by decide))).trans ((hFA51 163 (by decide)))]; exact Nat.lt_of_lt_of_le hps49 (Nat.le_of_lt_succ hm))
set_option maxRecDepth 100000 in
set_option maxHeartbeats 8000000 in
theorem NM_278 {X : pm_X} {d : Nat} {wc : pm_W} {f : Nat → Int32} {A : Nat → List Int32} (hc : wc.length = 147) (hI : MI f A) (hqp0 : (∀ j : Int, (0) ≤ j → j < (10) → (-1000000) ≤ ((A 163).getD j.toNat 0).toInt ∧ ((A 163).getD j.toNat 0).toInt ≤ 1000000)) : pmE pg X pg_tyl pg_cl (d + 2) 278 0 (pm_ent (pm_max pg 278) [.ref 147]) [] (md wc f A) (fun q => ∃ (A' : Nat → List Int32) (r : Int32), q = (some (.int r), md wc f A', 0, 0) ∧ MI f A' ∧ (∀ k : Nat, k ≠ 162 → k ≠ 163 → k ≠ 164 → A' k = A k) ∧ (((0 ≤ r.toInt ∧ r.toInt ≤ 1) ∧ (∀ j : Int, (0) ≤ j → j < (10) → (-1000000) ≤ ((A' 163).getD j.toNat 0).toInt ∧ ((A' 163).getD j.toNat 0).toInt ≤ 1000000) ∧ True))) := by
  show pmE pg X pg_tyl pg_cl (d + 2) 278 0 [.ref 147, pm_dead, pm_dead, pm_dead, pm_dead] [] (md wc f A) _
  refine pe_aload_n (j := 0) (by decide +kernel) rfl ?_
  refine pz_callV (j := 317) (mj := 279) (by decide +kernel) (cll_V (args := []) (n := 0) (by decide +kernel) rfl rfl (md_o hc) (by decide +kernel) (Nat.le_of_ble_eq_true rfl) (Nat.le_of_ble_eq_true rfl)) (NM_279 hc hI) (fun q1a q1b q1c q1d hqq1 => ?_)
  obtain ⟨A2, rq1, eq1, hIq1, hFq1, kq1⟩ := hqq1
  cases eq1
  refine ⟨rfl, rfl, ?_⟩
  obtain ⟨kfq1, kq1⟩ := kq1
  obtain ⟨hp3, kq1⟩ := kq1
  show pmE pg X pg_tyl pg_cl (d + 2) 278 4 [.ref 147, pm_dead, pm_dead, pm_dead, pm_dead] [.int rq1] (md wc f A2) _
  refine pe_istore_n (j := 1) (ls' := [.ref 147, .int rq1, pm_dead, pm_dead, pm_dead]) (by decide +kernel) (Nat.le_of_ble_eq_true rfl) rfl ?_
  have hq12 : (∀ j : Int, (0) ≤ j → j < (10) → (-1000000) ≤ ((A2 163).getD j.toNat 0).toInt ∧ ((A2 163).getD j.toNat 0).toInt ≤ 1000000) := by
    intro j h1 h2
    rw [show A2 163 = A 163 from (hFq1 163 (by decide))]
    first
    | (exfalso; omega)
    | exact hqp0 j (by omega) (by omega)
  refine NL_278_5 hc (fun A4 y5 u6 u7 u8 hIy9 hFA4 gy5 hq10 hp11 => ?_) (ps (A2 163) + 1) A2 rq1 (pm_dead) (pm_dead) (pm_dead) hIq1 (fun k _ _ _ => rfl) (by omega) hq12 hp3 (Nat.lt_succ_self _)
  refine pe_iconstv (n := 1) (v := 1) (by decide +kernel) (by decide +kernel) ?_
  refine pe_istore_n (j := 2) (ls' := [.ref 147, .int y5, .int 1, u7, u8]) (by decide +kernel) (Nat.le_of_ble_eq_true rfl) rfl ?_
  refine pe_iconstv (n := 0) (v := 0) (by decide +kernel) (by decide +kernel) ?_
  refine pe_istore_n (j := 3) (ls' := [.ref 147, .int y5, .int 1, .int 0, u8]) (by decide +kernel) (Nat.le_of_ble_eq_true rfl) rfl ?_
  have hq16 : (∀ j : Int, (0) ≤ j → j < (10) → (-1000000) ≤ ((A4 163).getD j.toNat 0).toInt ∧ ((A4 163).getD j.toNat 0).toInt ≤ 1000000) := by
    intro j h1 h2
    first
    | (exfalso; omega)
    | exact hq10 j (by omega) (by omega)
  refine NL_278_164 hc hIy9 (by omega) (fun y13 y14 gy13 gy14 hq15 => ?_) 11 1 0 (by decide +kernel) (by decide +kernel) hq16 (by decide +kernel)
  refine pe_iload_n (j := 2) (by decide +kernel) rfl ?_
  have hqr0 : (∀ j : Int, (0) ≤ j → j < (10) → (-1000000) ≤ ((A4 163).getD j.toNat 0).toInt ∧ ((A4 163).getD j.toNat 0).toInt ≤ 1000000) := by
    intro j h1 h2
    first
    | (exfalso; omega)
    | exact hq10 j (by omega) (by omega)
    | exact hq15 j (by omega) (by omega)
  exact pe_iret (by decide +kernel) rfl (nz_b (by omega)) ⟨A4, y13, rfl, hIy9, (fun k n162 n163 n164 => ((hFA4 k n162 n163 n164)).trans ((hFq1 k n164))), ⟨(by omega), hqr0, trivial⟩⟩
