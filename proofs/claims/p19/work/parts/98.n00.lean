set_option maxRecDepth 100000 in
set_option maxHeartbeats 8000000 in
theorem NL_229_2 {X : pm_X} {d : Nat} {wc : pm_W} {Q : pm_R → Prop} {f : Nat → Int32} {A0 : Nat → List Int32} (hc : wc.length = 147) (k_21_0 : ∀ (A' : Nat → List Int32) (y1 : Int32), MI f A' → (∀ k : Nat, k ≠ 152 → A' k = A0 k) → (81 ≤ y1.toInt ∧ y1.toInt ≤ 81) → (∀ j : Int, (0) ≤ j → j < (y1.toInt) → 0 ≤ ((A' 152).getD j.toNat 0).toInt ∧ ((A' 152).getD j.toNat 0).toInt ≤ 0) → pmE pg X pg_tyl pg_cl (d) 229 21 [.ref 147, .int y1] [] (md wc f A') Q) : ∀ (m : Nat) (A : Nat → List Int32) (x1 : Int32), MI f A → (∀ k : Nat, k ≠ 152 → A k = A0 k) → (0 ≤ x1.toInt ∧ x1.toInt ≤ 81) → (∀ j : Int, (0) ≤ j → j < (x1.toInt) → 0 ≤ ((A 152).getD j.toNat 0).toInt ∧ ((A 152).getD j.toNat 0).toInt ≤ 0) → 81 - x1.toInt < (m : Int) → pmE pg X pg_tyl pg_cl (d) 229 2 [.ref 147, .int x1] [] (md wc f A) Q := by
  intro m
  induction m with
  | zero =>
    intro A x1 hI hF gx1 hv0 hm
    exfalso
    have l0 := zi_lo x1
    have u0 := zi_hi x1
    omega
  | succ m ih =>
    intro A x1 hI hF gx1 hv0 hm
    refine pe_iload_n (j := 1) (by decide +kernel) rfl ?_
    refine pe_bipushv (n := 81) (v := 81) (by decide +kernel) (by decide +kernel) ?_
    refine pz_icmp_ge (off := 16) (t := 21) (by decide +kernel) (by decide) rfl rfl kz_81 (fun h1 => ?_) (fun h1 => ?_)
    · skip
      have hq2 : (∀ j : Int, (0) ≤ j → j < (x1.toInt) → 0 ≤ ((A 152).getD j.toNat 0).toInt ∧ ((A 152).getD j.toNat 0).toInt ≤ 0) := by
        intro j h1 h2
        first
        | (exfalso; omega)
        | exact hv0 j (by omega) (by omega)
      exact k_21_0 A x1 hI (fun k n152 => (hF k n152)) (by omega) hq2
    · skip
      refine pe_aload_n (j := 0) (by decide +kernel) rfl ?_
      refine pe_get (j := 23) (ci := 12) (n := 12) (by decide +kernel) (by decide +kernel) (md_o hc) rfl ?_
      refine pe_iload_n (j := 1) (by decide +kernel) rfl ?_
      refine pe_iconstv (n := 0) (v := 0) (by decide +kernel) (by decide +kernel) ?_
      refine mz_st152 (by decide +kernel) hc hI rfl (by omega) (by omega) (fun A3 eA3 hIA3 => ?_)
      refine pz_iinc (j := 1) (n := 1) (by decide +kernel) rfl rfl (by decide +kernel) (by omega) (by omega) (fun z4 hz4 => ?_)
      show pmE pg X pg_tyl pg_cl (d) 229 18 [.ref 147, .int z4] [] (md wc f A3) _
      refine pe_goto (off := (-16)) (t := 2) (by decide +kernel) (by decide) rfl ?_
      have hq5 : (∀ j : Int, (0) ≤ j → j < (z4.toInt) → 0 ≤ ((A3 152).getD j.toNat 0).toInt ∧ ((A3 152).getD j.toNat 0).toInt ≤ 0) := by
        intro j h1 h2
        first
        | (exfalso; omega)
        | (by_cases e : (x1.toInt).toNat = j.toNat
           · rw [upa_at eA3, ← e, gz_eq (by rw [(mlen_152 hI)]; omega), kz_0]; omega
           · rw [upa_at eA3, gz_ne e]; exact hv0 j (by omega) (by omega))
      exact ih A3 z4 hIA3 (fun k n152 => (upa_fr eA3 n152).trans ((hF k n152))) (by omega) hq5 (by omega)
set_option maxRecDepth 100000 in
set_option maxHeartbeats 8000000 in
theorem NM_229 {X : pm_X} {d : Nat} {wc : pm_W} {f : Nat → Int32} {A : Nat → List Int32} (hc : wc.length = 147) (hI : MI f A) : pmE pg X pg_tyl pg_cl (d) 229 0 (pm_ent (pm_max pg 229) [.ref 147]) [] (md wc f A) (fun q => ∃ (f' : Nat → Int32) (A' : Nat → List Int32), q = (none, md wc f' A', 0, 0) ∧ MI f' A' ∧ (∀ k : Nat, k ≠ 14 → k ≠ 15 → f' k = f k) ∧ (∀ k : Nat, k ≠ 152 → A' k = A k) ∧ ((f' 14).toInt) ≤ 0 ∧ (((∀ j : Int, (0) ≤ j → j < (81) → 0 ≤ ((A' 152).getD j.toNat 0).toInt ∧ ((A' 152).getD j.toNat 0).toInt ≤ 0) ∧ True))) := by
  show pmE pg X pg_tyl pg_cl (d) 229 0 [.ref 147, pm_dead] [] (md wc f A) _
  refine pe_iconstv (n := 0) (v := 0) (by decide +kernel) (by decide +kernel) ?_
  refine pe_istore_n (j := 1) (ls' := [.ref 147, .int 0]) (by decide +kernel) (Nat.le_of_ble_eq_true rfl) rfl ?_
  have hq5 : (∀ j : Int, (0) ≤ j → j < ((0 : Int32).toInt) → 0 ≤ ((A 152).getD j.toNat 0).toInt ∧ ((A 152).getD j.toNat 0).toInt ≤ 0) := by
    intro j h1 h2
    have hl_x1 := kz_0
    first
    | (exfalso; omega)
  refine NL_229_2 hc (fun A1 y2 hIy3 hFA1 gy2 hq4 => ?_) 82 A 0 hI (fun k _ => rfl) (by decide +kernel) hq5 (by decide +kernel)
  refine pe_aload_n (j := 0) (by decide +kernel) rfl ?_
  refine pe_iconstv (n := 0) (v := 0) (by decide +kernel) (by decide +kernel) ?_
  refine mz_put14 (jj := 175) (by decide +kernel) (by decide +kernel) hc hIy3 (by decide +kernel) (by decide +kernel) (fun f6 ef6 hIf6 => ?_)
  refine pe_aload_n (j := 0) (by decide +kernel) rfl ?_
  refine pe_iconstv (n := 0) (v := 0) (by decide +kernel) (by decide +kernel) ?_
  refine mz_put15 (jj := 178) (by decide +kernel) (by decide +kernel) hc hIf6 (fun f7 ef7 hIf7 => ?_)
  have hx8 : (f7 14).toInt = 0 := (congrArg Int32.toInt (show f7 14 = 0 from (upf_fr ef7 (by decide)).trans (upf_at ef6))).trans kz_0
  have hqr0 : (∀ j : Int, (0) ≤ j → j < (81) → 0 ≤ ((A1 152).getD j.toNat 0).toInt ∧ ((A1 152).getD j.toNat 0).toInt ≤ 0) := by
    intro j h1 h2
    first
    | (exfalso; omega)
    | exact hq4 j (by omega) (by omega)
  exact pe_vret (by decide +kernel) rfl ⟨f7, A1, rfl, hIf7, (fun k n14 n15 => (upf_fr ef7 n15).trans (upf_fr ef6 n14)), (fun k n152 => (hFA1 k n152)), (by omega), ⟨hqr0, trivial⟩⟩
set_option maxRecDepth 100000 in
set_option maxHeartbeats 8000000 in
theorem NL_237_2 {X : pm_X} {d : Nat} {wc : pm_W} {Q : pm_R → Prop} {f : Nat → Int32} {A0 : Nat → List Int32} {x1 : Int32} (hc : wc.length = 147) (gx1 : (0 ≤ x1.toInt ∧ x1.toInt ≤ 30)) (hpk0 : N0 (A0 152)) (hpk1 : 0 ≤ fr (A0 153) (10 * x1.toInt + 1)) (k_86_0 : ∀ (A' : Nat → List Int32) (y2 : Int32) (v3 : Value), MI f A' → (∀ k : Nat, k ≠ 152 → A' k = A0 k) → (0 ≤ y2.toInt ∧ y2.toInt ≤ 6) → DI (A' 152) (A0 152) 0 0 → pmE pg X pg_tyl pg_cl (d + 2) 237 86 [.ref 147, .int x1, .int y2, v3] [] (md wc f A') Q) : ∀ (m : Nat) (A : Nat → List Int32) (x2 : Int32) (u3 : Value), MI f A → (∀ k : Nat, k ≠ 152 → A k = A0 k) → (0 ≤ x2.toInt ∧ x2.toInt ≤ 6) → DI (A 152) (A0 152) 0 0 → 6 - x2.toInt < (m : Int) → pmE pg X pg_tyl pg_cl (d + 2) 237 2 [.ref 147, .int x1, .int x2, u3] [] (md wc f A) Q := by
  intro m
  induction m with
  | zero =>
    intro A x2 u3 hI hF gx2 hpi0 hm
    exfalso
    have l0 := zi_lo x2
    have u0 := zi_hi x2
    omega
  | succ m ih =>
    intro A x2 u3 hI hF gx2 hpi0 hm
    refine pe_iload_n (j := 2) (by decide +kernel) rfl ?_
    refine pe_aload_n (j := 0) (by decide +kernel) rfl ?_
    refine pe_get (j := 26) (ci := 12) (n := 13) (by decide +kernel) (by decide +kernel) (md_o hc) rfl ?_
    refine pe_bipushv (n := 10) (v := 10) (by decide +kernel) (by decide +kernel) ?_
    refine pe_iload_n (j := 1) (by decide +kernel) rfl ?_
    refine pz_mul (by decide +kernel) kz_10 rfl (by omega) (by omega) (fun z1 hz1 => ?_)
    refine pz_iald (by decide +kernel) (md_a153 hc) (mlen_153 hI) hz1 (by omega) (by omega) (fun v2 ev2 => ?_)
    have rv2 : 0 ≤ v2.toInt ∧ v2.toInt ≤ 6 := mp_m (mp_153 hI ev2) (by omega)
    rw [show A 153 = A0 153 from (hF 153 (by decide))] at ev2
    clear hz1
    refine pz_icmp_ge (off := 74) (t := 86) (by decide +kernel) (by decide) rfl rfl rfl (fun h3 => ?_) (fun h3 => ?_)
    · skip
      exact k_86_0 A x2 (u3) hI (fun k n152 => (hF k n152)) (by omega) hpi0
    · skip
      refine pe_bipushv (n := 9) (v := 9) (by decide +kernel) (by decide +kernel) ?_
      refine pe_aload_n (j := 0) (by decide +kernel) rfl ?_
      refine pe_iload_n (j := 1) (by decide +kernel) rfl ?_
      refine pe_iload_n (j := 2) (by decide +kernel) rfl ?_
      refine pi_V (j := 184) (mj := 234) (by decide +kernel) (cll_V (args := [.int x2, .int x1]) (n := 2) (by decide +kernel) rfl rfl (md_o hc) (by decide +kernel) (Nat.le_of_ble_eq_true rfl) (Nat.le_of_ble_eq_true rfl)) ?_
      show pmE pg X pg_tyl pg_cl (d + 1) 234 0 [.ref 147, .int x1, .int x2] [] (md wc f A) _
      refine pe_aload_n (j := 0) (by decide +kernel) rfl ?_
      refine pe_get (j := 26) (ci := 12) (n := 13) (by decide +kernel) (by decide +kernel) (md_o hc) rfl ?_
      refine pe_bipushv (n := 10) (v := 10) (by decide +kernel) (by decide +kernel) ?_
      refine pe_iload_n (j := 1) (by decide +kernel) rfl ?_
      refine pz_mul (by decide +kernel) kz_10 rfl (by omega) (by omega) (fun z4 hz4 => ?_)
      refine pe_iconstv (n := 4) (v := 4) (by decide +kernel) (by decide +kernel) ?_
      refine pz_add (by decide +kernel) hz4 kz_4 (by omega) (by omega) (fun z5 hz5 => ?_)
      clear hz4
      refine pe_iload_n (j := 2) (by decide +kernel) rfl ?_
      refine pz_add (by decide +kernel) hz5 rfl (by omega) (by omega) (fun z6 hz6 => ?_)
      clear hz5
      refine pz_iald (by decide +kernel) (md_a153 hc) (mlen_153 hI) hz6 (by omega) (by omega) (fun v7 ev7 => ?_)
      have rv7 : 0 ≤ v7.toInt ∧ v7.toInt ≤ 8 := mp_w (mp_153 hI ev7) (by omega)
      rw [show A 153 = A0 153 from (hF 153 (by decide))] at ev7
      clear hz6
      refine pe_iret (by decide +kernel) rfl rfl ⟨rfl, rfl, ?_⟩
      show pmE pg X pg_tyl pg_cl (d + 2) 237 23 [.ref 147, .int x1, .int x2, u3] [.int v7, .int 9] (md wc f A) _
      refine pz_mul (by decide +kernel) kz_9 rfl (by omega) (by omega) (fun z8 hz8 => ?_)
      refine pe_aload_n (j := 0) (by decide +kernel) rfl ?_
      refine pe_iload_n (j := 1) (by decide +kernel) rfl ?_
      refine pe_iload_n (j := 2) (by decide +kernel) rfl ?_
      refine pi_V (j := 187) (mj := 235) (by decide +kernel) (cll_V (args := [.int x2, .int x1]) (n := 2) (by decide +kernel) rfl rfl (md_o hc) (by decide +kernel) (Nat.le_of_ble_eq_true rfl) (Nat.le_of_ble_eq_true rfl)) ?_
      show pmE pg X pg_tyl pg_cl (d + 1) 235 0 [.ref 147, .int x1, .int x2] [] (md wc f A) _
      refine pe_aload_n (j := 0) (by decide +kernel) rfl ?_
      refine pe_iload_n (j := 1) (by decide +kernel) rfl ?_
      refine pe_iload_n (j := 2) (by decide +kernel) rfl ?_
      refine pe_iconstv (n := 1) (v := 1) (by decide +kernel) (by decide +kernel) ?_
      refine pz_add (by decide +kernel) rfl kz_1 (by omega) (by omega) (fun z9 hz9 => ?_)
      refine pe_aload_n (j := 0) (by decide +kernel) rfl ?_
      refine pe_get (j := 26) (ci := 12) (n := 13) (by decide +kernel) (by decide +kernel) (md_o hc) rfl ?_
      refine pe_bipushv (n := 10) (v := 10) (by decide +kernel) (by decide +kernel) ?_
      refine pe_iload_n (j := 1) (by decide +kernel) rfl ?_
      refine pz_mul (by decide +kernel) kz_10 rfl (by omega) (by omega) (fun z10 hz10 => ?_)
      refine pz_iald (by decide +kernel) (md_a153 hc) (mlen_153 hI) hz10 (by omega) (by omega) (fun v11 ev11 => ?_)
      rw [show A 153 = A0 153 from (hF 153 (by decide))] at ev11
      rw [ev11.trans ev2.symm]
      clear ev11 v11
      clear hz10
      refine pz_icmp_ne (off := 7) (t := 21) (by decide +kernel) (by decide) rfl hz9 rfl (fun h12 => ?_) (fun h12 => ?_)
      · skip
        clear hz9
        refine pe_iload_n (j := 2) (by decide +kernel) rfl ?_
        refine pe_iconstv (n := 1) (v := 1) (by decide +kernel) (by decide +kernel) ?_
        refine pz_add (by decide +kernel) rfl kz_1 (by omega) (by omega) (fun z13 hz13 => ?_)
        refine pi_V (j := 184) (mj := 234) (by decide +kernel) (cll_V (args := [.int z13, .int x1]) (n := 2) (by decide +kernel) rfl rfl (md_o hc) (by decide +kernel) (Nat.le_of_ble_eq_true rfl) (Nat.le_of_ble_eq_true rfl)) ?_
        show pmE pg X pg_tyl pg_cl (d) 234 0 [.ref 147, .int x1, .int z13] [] (md wc f A) _
        refine pe_aload_n (j := 0) (by decide +kernel) rfl ?_
        refine pe_get (j := 26) (ci := 12) (n := 13) (by decide +kernel) (by decide +kernel) (md_o hc) rfl ?_
        refine pe_bipushv (n := 10) (v := 10) (by decide +kernel) (by decide +kernel) ?_
        refine pe_iload_n (j := 1) (by decide +kernel) rfl ?_
        refine pz_mul (by decide +kernel) kz_10 rfl (by omega) (by omega) (fun z14 hz14 => ?_)
        refine pe_iconstv (n := 4) (v := 4) (by decide +kernel) (by decide +kernel) ?_
        refine pz_add (by decide +kernel) hz14 kz_4 (by omega) (by omega) (fun z15 hz15 => ?_)
        clear hz14
        refine pe_iload_n (j := 2) (by decide +kernel) rfl ?_
        refine pz_add (by decide +kernel) hz15 hz13 (by omega) (by omega) (fun z16 hz16 => ?_)
        clear hz15
        refine pz_iald (by decide +kernel) (md_a153 hc) (mlen_153 hI) hz16 (by omega) (by omega) (fun v17 ev17 => ?_)
        have rv17 : 0 ≤ v17.toInt ∧ v17.toInt ≤ 8 := mp_w (mp_153 hI ev17) (by omega)
        rw [show A 153 = A0 153 from (hF 153 (by decide))] at ev17
        clear hz16
        refine pe_iret (by decide +kernel) rfl rfl ⟨rfl, rfl, ?_⟩
        show pmE pg X pg_tyl pg_cl (d + 1) 235 27 [.ref 147, .int x1, .int x2] [.int v17] (md wc f A) _
        refine pe_iret (by decide +kernel) rfl rfl ⟨rfl, rfl, ?_⟩
        show pmE pg X pg_tyl pg_cl (d + 2) 237 30 [.ref 147, .int x1, .int x2, u3] [.int v17, .int z8] (md wc f A) _
        refine pz_add (by decide +kernel) hz8 rfl (by omega) (by omega) (fun z18 hz18 => ?_)
        clear hz8
        refine pe_istore_n (j := 3) (ls' := [.ref 147, .int x1, .int x2, .int z18]) (by decide +kernel) (Nat.le_of_ble_eq_true rfl) rfl ?_
        refine pe_aload_n (j := 0) (by decide +kernel) rfl ?_
        refine pe_get (j := 23) (ci := 12) (n := 12) (by decide +kernel) (by decide +kernel) (md_o hc) rfl ?_
        refine pe_iload_n (j := 3) (by decide +kernel) rfl ?_
        refine pe_aload_n (j := 0) (by decide +kernel) rfl ?_
        refine pe_get (j := 23) (ci := 12) (n := 12) (by decide +kernel) (by decide +kernel) (md_o hc) rfl ?_
        refine pe_iload_n (j := 3) (by decide +kernel) rfl ?_
        refine pz_iald (by decide +kernel) (md_a152 hc) (mlen_152 hI) hz18 (by omega) (by omega) (fun v19 ev19 => ?_)
        have hb20 := (DI_n0 hpi0 hpk0) (((9 * v7.toInt) + v17.toInt)) (by omega) (by omega)
        rw [(show fr (A 152) (((9 * v7.toInt) + v17.toInt)) = v19.toInt from congrArg Int32.toInt ev19.symm)] at hb20
        refine pe_aload_n (j := 0) (by decide +kernel) rfl ?_
        refine pe_get (j := 26) (ci := 12) (n := 13) (by decide +kernel) (by decide +kernel) (md_o hc) rfl ?_
        refine pe_bipushv (n := 10) (v := 10) (by decide +kernel) (by decide +kernel) ?_
        refine pe_iload_n (j := 1) (by decide +kernel) rfl ?_
        refine pz_mul (by decide +kernel) kz_10 rfl (by omega) (by omega) (fun z21 hz21 => ?_)
        refine pe_iconstv (n := 1) (v := 1) (by decide +kernel) (by decide +kernel) ?_
        refine pz_add (by decide +kernel) hz21 kz_1 (by omega) (by omega) (fun z22 hz22 => ?_)
        clear hz21
        refine pz_iald (by decide +kernel) (md_a153 hc) (mlen_153 hI) hz22 (by omega) (by omega) (fun v23 ev23 => ?_)
        rw [show A 153 = A0 153 from (hF 153 (by decide))] at ev23
        clear hz22
        have hb24 : 0 ≤ v23.toInt := by have h := hpk1; rw [show (10 * x1.toInt + 1) = ((10 * x1.toInt) + 1) by omega, (show fr (A0 153) (((10 * x1.toInt) + 1)) = v23.toInt from congrArg Int32.toInt ev23.symm)] at h; exact h
        have lw26 := zi_lo v23
        have uw26 := zi_hi v23
        refine pz_icmp_ge (off := 7) (t := 61) (by decide +kernel) (by decide) rfl rfl rfl (fun h25 => ?_) (fun h25 => ?_)
        · skip
          refine pe_aload_n (j := 0) (by decide +kernel) rfl ?_
          refine pe_get (j := 23) (ci := 12) (n := 12) (by decide +kernel) (by decide +kernel) (md_o hc) rfl ?_
          refine pe_iload_n (j := 3) (by decide +kernel) rfl ?_
          refine pz_iald (by decide +kernel) (md_a152 hc) (mlen_152 hI) hz18 (by omega) (by omega) (fun v27 ev27 => ?_)
          rw [ev27.trans ev19.symm]
          clear ev27 v27
          refine pe_aload_n (j := 0) (by decide +kernel) rfl ?_
          refine pe_get (j := 26) (ci := 12) (n := 13) (by decide +kernel) (by decide +kernel) (md_o hc) rfl ?_
          refine pe_bipushv (n := 10) (v := 10) (by decide +kernel) (by decide +kernel) ?_
          refine pe_iload_n (j := 1) (by decide +kernel) rfl ?_
          refine pz_mul (by decide +kernel) kz_10 rfl (by omega) (by omega) (fun z28 hz28 => ?_)
          refine pe_iconstv (n := 1) (v := 1) (by decide +kernel) (by decide +kernel) ?_
          refine pz_add (by decide +kernel) hz28 kz_1 (by omega) (by omega) (fun z29 hz29 => ?_)
          clear hz28
          refine pz_iald (by decide +kernel) (md_a153 hc) (mlen_153 hI) hz29 (by omega) (by omega) (fun v30 ev30 => ?_)
          rw [show A 153 = A0 153 from (hF 153 (by decide))] at ev30
          rw [ev30.trans ev23.symm]
          clear ev30 v30
          clear hz29
          refine pz_sub (by decide +kernel) rfl rfl (by omega) (by omega) (fun z31 hz31 => ?_)
          refine mz_st152 (by decide +kernel) hc hI hz18 (by omega) (by omega) (fun A32 eA32 hIA32 => ?_)
          refine pz_iinc (j := 2) (n := 1) (by decide +kernel) rfl rfl (by decide +kernel) (by omega) (by omega) (fun z33 hz33 => ?_)
          show pmE pg X pg_tyl pg_cl (d + 2) 237 83 [.ref 147, .int x1, .int z33, .int z18] [] (md wc f A32) _
          refine pe_goto (off := (-81)) (t := 2) (by decide +kernel) (by decide) rfl ?_
          exact ih A32 z33 (.int z18) hIA32 (fun k n152 => (upa_fr eA32 n152).trans ((hF k n152))) (by omega) (by rw [upa_at eA32]; exact DI_set0 (i := ((9 * v7.toInt) + v17.toInt)) hpi0 (by omega) (by omega) (mlen_152 hI) (by omega) (by rw [(show fr (A 152) (((9 * v7.toInt) + v17.toInt)) = v19.toInt from congrArg Int32.toInt ev19.symm)]; omega)) (by omega)
        · skip
          refine pe_iconstv (n := 0) (v := 0) (by decide +kernel) (by decide +kernel) ?_
          refine pe_goto (off := 21) (t := 79) (by decide +kernel) (by decide) rfl ?_
          refine mz_st152 (by decide +kernel) hc hI hz18 (by omega) (by omega) (fun A35 eA35 hIA35 => ?_)
          refine pz_iinc (j := 2) (n := 1) (by decide +kernel) rfl rfl (by decide +kernel) (by omega) (by omega) (fun z36 hz36 => ?_)
          show pmE pg X pg_tyl pg_cl (d + 2) 237 83 [.ref 147, .int x1, .int z36, .int z18] [] (md wc f A35) _
          refine pe_goto (off := (-81)) (t := 2) (by decide +kernel) (by decide) rfl ?_
          have hv37 := kz_0
          exact ih A35 z36 (.int z18) hIA35 (fun k n152 => (upa_fr eA35 n152).trans ((hF k n152))) (by omega) (by rw [upa_at eA35]; exact DI_set0 (i := ((9 * v7.toInt) + v17.toInt)) hpi0 (by omega) (by omega) (mlen_152 hI) (by omega) (by rw [(show fr (A 152) (((9 * v7.toInt) + v17.toInt)) = v19.toInt from congrArg Int32.toInt ev19.symm)]; omega)) (by omega)
      · skip
        clear hz9
        refine pe_iconstv (n := 0) (v := 0) (by decide +kernel) (by decide +kernel) ?_
        refine pe_goto (off := 6) (t := 24) (by decide +kernel) (by decide) rfl ?_
        refine pi_V (j := 184) (mj := 234) (by decide +kernel) (cll_V (args := [.int 0, .int x1]) (n := 2) (by decide +kernel) rfl rfl (md_o hc) (by decide +kernel) (Nat.le_of_ble_eq_true rfl) (Nat.le_of_ble_eq_true rfl)) ?_
        show pmE pg X pg_tyl pg_cl (d) 234 0 [.ref 147, .int x1, .int 0] [] (md wc f A) _
        refine pe_aload_n (j := 0) (by decide +kernel) rfl ?_
        refine pe_get (j := 26) (ci := 12) (n := 13) (by decide +kernel) (by decide +kernel) (md_o hc) rfl ?_
        refine pe_bipushv (n := 10) (v := 10) (by decide +kernel) (by decide +kernel) ?_
        refine pe_iload_n (j := 1) (by decide +kernel) rfl ?_
        refine pz_mul (by decide +kernel) kz_10 rfl (by omega) (by omega) (fun z38 hz38 => ?_)
        refine pe_iconstv (n := 4) (v := 4) (by decide +kernel) (by decide +kernel) ?_
        refine pz_add (by decide +kernel) hz38 kz_4 (by omega) (by omega) (fun z39 hz39 => ?_)
        clear hz38
        refine pe_iload_n (j := 2) (by decide +kernel) rfl ?_
        refine pz_add (by decide +kernel) hz39 kz_0 (by omega) (by omega) (fun z40 hz40 => ?_)
        clear hz39
        refine pz_iald (by decide +kernel) (md_a153 hc) (mlen_153 hI) hz40 (by omega) (by omega) (fun v41 ev41 => ?_)
        have rv41 : 0 ≤ v41.toInt ∧ v41.toInt ≤ 8 := mp_w (mp_153 hI ev41) (by omega)
        rw [show A 153 = A0 153 from (hF 153 (by decide))] at ev41
        clear hz40
        refine pe_iret (by decide +kernel) rfl rfl ⟨rfl, rfl, ?_⟩
        show pmE pg X pg_tyl pg_cl (d + 1) 235 27 [.ref 147, .int x1, .int x2] [.int v41] (md wc f A) _
        refine pe_iret (by decide +kernel) rfl rfl ⟨rfl, rfl, ?_⟩
        show pmE pg X pg_tyl pg_cl (d + 2) 237 30 [.ref 147, .int x1, .int x2, u3] [.int v41, .int z8] (md wc f A) _
        refine pz_add (by decide +kernel) hz8 rfl (by omega) (by omega) (fun z42 hz42 => ?_)
        clear hz8
        refine pe_istore_n (j := 3) (ls' := [.ref 147, .int x1, .int x2, .int z42]) (by decide +kernel) (Nat.le_of_ble_eq_true rfl) rfl ?_
        refine pe_aload_n (j := 0) (by decide +kernel) rfl ?_
        refine pe_get (j := 23) (ci := 12) (n := 12) (by decide +kernel) (by decide +kernel) (md_o hc) rfl ?_
        refine pe_iload_n (j := 3) (by decide +kernel) rfl ?_
        refine pe_aload_n (j := 0) (by decide +kernel) rfl ?_
        refine pe_get (j := 23) (ci := 12) (n := 12) (by decide +kernel) (by decide +kernel) (md_o hc) rfl ?_
        refine pe_iload_n (j := 3) (by decide +kernel) rfl ?_
        refine pz_iald (by decide +kernel) (md_a152 hc) (mlen_152 hI) hz42 (by omega) (by omega) (fun v43 ev43 => ?_)
        have hb44 := (DI_n0 hpi0 hpk0) (((9 * v7.toInt) + v41.toInt)) (by omega) (by omega)
        rw [(show fr (A 152) (((9 * v7.toInt) + v41.toInt)) = v43.toInt from congrArg Int32.toInt ev43.symm)] at hb44
        refine pe_aload_n (j := 0) (by decide +kernel) rfl ?_
        refine pe_get (j := 26) (ci := 12) (n := 13) (by decide +kernel) (by decide +kernel) (md_o hc) rfl ?_
        refine pe_bipushv (n := 10) (v := 10) (by decide +kernel) (by decide +kernel) ?_
        refine pe_iload_n (j := 1) (by decide +kernel) rfl ?_
        refine pz_mul (by decide +kernel) kz_10 rfl (by omega) (by omega) (fun z45 hz45 => ?_)
        refine pe_iconstv (n := 1) (v := 1) (by decide +kernel) (by decide +kernel) ?_
        refine pz_add (by decide +kernel) hz45 kz_1 (by omega) (by omega) (fun z46 hz46 => ?_)
        clear hz45
        refine pz_iald (by decide +kernel) (md_a153 hc) (mlen_153 hI) hz46 (by omega) (by omega) (fun v47 ev47 => ?_)
        rw [show A 153 = A0 153 from (hF 153 (by decide))] at ev47
        clear hz46
        have hb48 : 0 ≤ v47.toInt := by have h := hpk1; rw [show (10 * x1.toInt + 1) = ((10 * x1.toInt) + 1) by omega, (show fr (A0 153) (((10 * x1.toInt) + 1)) = v47.toInt from congrArg Int32.toInt ev47.symm)] at h; exact h
        have lw50 := zi_lo v47
        have uw50 := zi_hi v47
        refine pz_icmp_ge (off := 7) (t := 61) (by decide +kernel) (by decide) rfl rfl rfl (fun h49 => ?_) (fun h49 => ?_)
        · skip
          refine pe_aload_n (j := 0) (by decide +kernel) rfl ?_
          refine pe_get (j := 23) (ci := 12) (n := 12) (by decide +kernel) (by decide +kernel) (md_o hc) rfl ?_
          refine pe_iload_n (j := 3) (by decide +kernel) rfl ?_
          refine pz_iald (by decide +kernel) (md_a152 hc) (mlen_152 hI) hz42 (by omega) (by omega) (fun v51 ev51 => ?_)
          rw [ev51.trans ev43.symm]
          clear ev51 v51
          refine pe_aload_n (j := 0) (by decide +kernel) rfl ?_
          refine pe_get (j := 26) (ci := 12) (n := 13) (by decide +kernel) (by decide +kernel) (md_o hc) rfl ?_
          refine pe_bipushv (n := 10) (v := 10) (by decide +kernel) (by decide +kernel) ?_
          refine pe_iload_n (j := 1) (by decide +kernel) rfl ?_
          refine pz_mul (by decide +kernel) kz_10 rfl (by omega) (by omega) (fun z52 hz52 => ?_)
          refine pe_iconstv (n := 1) (v := 1) (by decide +kernel) (by decide +kernel) ?_
          refine pz_add (by decide +kernel) hz52 kz_1 (by omega) (by omega) (fun z53 hz53 => ?_)
          clear hz52
          refine pz_iald (by decide +kernel) (md_a153 hc) (mlen_153 hI) hz53 (by omega) (by omega) (fun v54 ev54 => ?_)
          rw [show A 153 = A0 153 from (hF 153 (by decide))] at ev54
          rw [ev54.trans ev47.symm]
          clear ev54 v54
          clear hz53
          refine pz_sub (by decide +kernel) rfl rfl (by omega) (by omega) (fun z55 hz55 => ?_)
          refine mz_st152 (by decide +kernel) hc hI hz42 (by omega) (by omega) (fun A56 eA56 hIA56 => ?_)
          refine pz_iinc (j := 2) (n := 1) (by decide +kernel) rfl rfl (by decide +kernel) (by omega) (by omega) (fun z57 hz57 => ?_)
          show pmE pg X pg_tyl pg_cl (d + 2) 237 83 [.ref 147, .int x1, .int z57, .int z42] [] (md wc f A56) _
          refine pe_goto (off := (-81)) (t := 2) (by decide +kernel) (by decide) rfl ?_
          exact ih A56 z57 (.int z42) hIA56 (fun k n152 => (upa_fr eA56 n152).trans ((hF k n152))) (by omega) (by rw [upa_at eA56]; exact DI_set0 (i := ((9 * v7.toInt) + v41.toInt)) hpi0 (by omega) (by omega) (mlen_152 hI) (by omega) (by rw [(show fr (A 152) (((9 * v7.toInt) + v41.toInt)) = v43.toInt from congrArg Int32.toInt ev43.symm)]; omega)) (by omega)
        · skip
          refine pe_iconstv (n := 0) (v := 0) (by decide +kernel) (by decide +kernel) ?_
          refine pe_goto (off := 21) (t := 79) (by decide +kernel) (by decide) rfl ?_
          refine mz_st152 (by decide +kernel) hc hI hz42 (by omega) (by omega) (fun A59 eA59 hIA59 => ?_)
          refine pz_iinc (j := 2) (n := 1) (by decide +kernel) rfl rfl (by decide +kernel) (by omega) (by omega) (fun z60 hz60 => ?_)
          show pmE pg X pg_tyl pg_cl (d + 2) 237 83 [.ref 147, .int x1, .int z60, .int z42] [] (md wc f A59) _
          refine pe_goto (off := (-81)) (t := 2) (by decide +kernel) (by decide) rfl ?_
          have hv61 := kz_0
          exact ih A59 z60 (.int z42) hIA59 (fun k n152 => (upa_fr eA59 n152).trans ((hF k n152))) (by omega) (by rw [upa_at eA59]; exact DI_set0 (i := ((9 * v7.toInt) + v41.toInt)) hpi0 (by omega) (by omega) (mlen_152 hI) (by omega) (by rw [(show fr (A 152) (((9 * v7.toInt) + v41.toInt)) = v43.toInt from congrArg Int32.toInt ev43.symm)]; omega)) (by omega)
set_option maxRecDepth 100000 in
set_option maxHeartbeats 8000000 in
theorem NM_237 {X : pm_X} {d : Nat} {wc : pm_W} {f : Nat → Int32} {A : Nat → List Int32} {x1 : Int32} (hc : wc.length = 147) (hI : MI f A) (gx1 : (0 ≤ x1.toInt ∧ x1.toInt ≤ 30)) (hpp0 : N0 (A 152)) (hpp1 : 0 ≤ fr (A 153) (10 * x1.toInt + 1)) : pmE pg X pg_tyl pg_cl (d + 2) 237 0 (pm_ent (pm_max pg 237) [.ref 147, .int x1]) [] (md wc f A) (fun q => ∃ (A' : Nat → List Int32), q = (none, md wc f A', 0, 0) ∧ MI f A' ∧ (∀ k : Nat, k ≠ 152 → k ≠ 153 → A' k = A k) ∧ ((DI (A' 152) (A 152) 0 0 ∧ RE (A' 153) (A 153) ∧ True))) := by
  show pmE pg X pg_tyl pg_cl (d + 2) 237 0 [.ref 147, .int x1, pm_dead, pm_dead] [] (md wc f A) _
  refine pe_iconstv (n := 0) (v := 0) (by decide +kernel) (by decide +kernel) ?_
  refine pe_istore_n (j := 2) (ls' := [.ref 147, .int x1, .int 0, pm_dead]) (by decide +kernel) (Nat.le_of_ble_eq_true rfl) rfl ?_
  refine NL_237_2 hc (by omega) hpp0 hpp1 (fun A1 y2 u3 hIy4 hFA1 gy2 hp5 => ?_) 7 A 0 (pm_dead) hI (fun k _ => rfl) (by decide +kernel) (DI_refl hpp0 (by decide)) (by decide +kernel)
  refine pe_aload_n (j := 0) (by decide +kernel) rfl ?_
  refine pe_get (j := 26) (ci := 12) (n := 13) (by decide +kernel) (by decide +kernel) (md_o hc) rfl ?_
  refine pe_bipushv (n := 10) (v := 10) (by decide +kernel) (by decide +kernel) ?_
  refine pe_iload_n (j := 1) (by decide +kernel) rfl ?_
  refine pz_mul (by decide +kernel) kz_10 rfl (by omega) (by omega) (fun z6 hz6 => ?_)
  refine pe_iconstv (n := 3) (v := 3) (by decide +kernel) (by decide +kernel) ?_
  refine pz_add (by decide +kernel) hz6 kz_3 (by omega) (by omega) (fun z7 hz7 => ?_)
  clear hz6
  refine pe_iconstv (n := 0) (v := 0) (by decide +kernel) (by decide +kernel) ?_
  refine mz_st153 (by decide +kernel) hc hIy4 hz7 (by omega) (by omega) (by rw [kz_0]; simp only [MP_rings]; omega) (fun A8 eA8 hIA8 => ?_)
  exact pe_vret (by decide +kernel) rfl ⟨A8, rfl, hIA8, (fun k n152 n153 => (upa_fr eA8 n153).trans ((hFA1 k n152))), ⟨(by rw [upa_fr eA8 (by decide : (152 : Nat) ≠ 153)]; exact hp5), (by rw [upa_at eA8, show A1 153 = A 153 from (hFA1 153 (by decide))]; exact RE_set (by omega) (by omega)), trivial⟩⟩
set_option maxRecDepth 100000 in
set_option maxHeartbeats 8000000 in
theorem NL_238_40 {X : pm_X} {d : Nat} {wc : pm_W} {Q : pm_R → Prop} {f : Nat → Int32} {A0 : Nat → List Int32} {x1 : Int32} (hc : wc.length = 147) (gx1 : (0 ≤ x1.toInt ∧ x1.toInt ≤ 8)) (k_76_0 : ∀ (A' : Nat → List Int32) (y2 : Int32), MI f A' → (∀ k : Nat, k ≠ 152 → A' k = A0 k) → (9 ≤ y2.toInt ∧ y2.toInt ≤ 9) → DI (A' 152) (A0 152) 0 0 → pmE pg X pg_tyl pg_cl (d + 3) 238 76 [.ref 147, .int x1, .int y2] [] (md wc f A') Q) : ∀ (m : Nat) (A : Nat → List Int32) (x2 : Int32), MI f A → (∀ k : Nat, k ≠ 152 → A k = A0 k) → (0 ≤ x2.toInt ∧ x2.toInt ≤ 9) → DI (A 152) (A0 152) 0 0 → 9 - x2.toInt < (m : Int) → pmE pg X pg_tyl pg_cl (d + 3) 238 40 [.ref 147, .int x1, .int x2] [] (md wc f A) Q := by
  intro m
  induction m with
  | zero =>
    intro A x2 hI hF gx2 hpi0 hm
    exfalso
    have l0 := zi_lo x2
    have u0 := zi_hi x2
    omega
  | succ m ih =>
    intro A x2 hI hF gx2 hpi0 hm
    refine pe_iload_n (j := 2) (by decide +kernel) rfl ?_
    refine pe_bipushv (n := 9) (v := 9) (by decide +kernel) (by decide +kernel) ?_
    refine pz_icmp_ge (off := 33) (t := 76) (by decide +kernel) (by decide) rfl rfl kz_9 (fun h1 => ?_) (fun h1 => ?_)
    · skip
      exact k_76_0 A x2 hI (fun k n152 => (hF k n152)) (by omega) hpi0
    · skip
      refine pe_aload_n (j := 0) (by decide +kernel) rfl ?_
      refine pe_get (j := 23) (ci := 12) (n := 12) (by decide +kernel) (by decide +kernel) (md_o hc) rfl ?_
      refine pe_bipushv (n := 9) (v := 9) (by decide +kernel) (by decide +kernel) ?_
      refine pe_iload_n (j := 1) (by decide +kernel) rfl ?_
      refine pz_mul (by decide +kernel) kz_9 rfl (by omega) (by omega) (fun z2 hz2 => ?_)
      refine pe_iload_n (j := 2) (by decide +kernel) rfl ?_
      refine pz_add (by decide +kernel) hz2 rfl (by omega) (by omega) (fun z3 hz3 => ?_)
      clear hz2
      refine pe_iconstv (n := 0) (v := 0) (by decide +kernel) (by decide +kernel) ?_
      refine mz_st152 (by decide +kernel) hc hI hz3 (by omega) (by omega) (fun A4 eA4 hIA4 => ?_)
      refine pe_aload_n (j := 0) (by decide +kernel) rfl ?_
      refine pe_get (j := 23) (ci := 12) (n := 12) (by decide +kernel) (by decide +kernel) (md_o hc) rfl ?_
      refine pe_bipushv (n := 9) (v := 9) (by decide +kernel) (by decide +kernel) ?_
      refine pe_iload_n (j := 2) (by decide +kernel) rfl ?_
      refine pz_mul (by decide +kernel) kz_9 rfl (by omega) (by omega) (fun z5 hz5 => ?_)
      refine pe_iload_n (j := 1) (by decide +kernel) rfl ?_
      refine pz_add (by decide +kernel) hz5 rfl (by omega) (by omega) (fun z6 hz6 => ?_)
      clear hz5
      refine pe_iconstv (n := 0) (v := 0) (by decide +kernel) (by decide +kernel) ?_
      refine mz_st152 (by decide +kernel) hc hIA4 hz6 (by omega) (by omega) (fun A7 eA7 hIA7 => ?_)
      refine pz_iinc (j := 2) (n := 1) (by decide +kernel) rfl rfl (by decide +kernel) (by omega) (by omega) (fun z8 hz8 => ?_)
      show pmE pg X pg_tyl pg_cl (d + 3) 238 73 [.ref 147, .int x1, .int z8] [] (md wc f A7) _
      refine pe_goto (off := (-33)) (t := 40) (by decide +kernel) (by decide) rfl ?_
      have hz9 : DI (A4 152) (A0 152) 0 0 := by rw [upa_at eA4]; exact DI_set0 (i := ((9 * x1.toInt) + x2.toInt)) hpi0 (by omega) (by omega) (mlen_152 hI) (by decide +kernel) (by have h := hpi0 (((9 * x1.toInt) + x2.toInt)) (by omega) (by omega); rw [kz_0]; omega)
      exact ih A7 z8 hIA7 (fun k n152 => (upa_fr eA7 n152).trans ((upa_fr eA4 n152).trans ((hF k n152)))) (by omega) (by rw [upa_at eA7]; exact DI_set0 (i := ((9 * x2.toInt) + x1.toInt)) hz9 (by omega) (by omega) (mlen_152 hIA4) (by decide +kernel) (by have h := hz9 (((9 * x2.toInt) + x1.toInt)) (by omega) (by omega); rw [kz_0]; omega)) (by omega)
set_option maxRecDepth 100000 in
set_option maxHeartbeats 8000000 in
theorem NL_238_2 {X : pm_X} {d : Nat} {wc : pm_W} {Q : pm_R → Prop} {f : Nat → Int32} {A0 : Nat → List Int32} {x1 : Int32} (hc : wc.length = 147) (gx1 : (0 ≤ x1.toInt ∧ x1.toInt ≤ 8)) (hpk0 : N0 (A0 152)) (hpk1 : RG (A0 153) (f 14).toInt) (k_38_0 : ∀ (A' : Nat → List Int32) (y2 : Int32), MI f A' → (∀ k : Nat, k ≠ 152 → k ≠ 153 → A' k = A0 k) → (0 ≤ y2.toInt ∧ y2.toInt ≤ 30) → DI (A' 152) (A0 152) 0 0 → RE (A' 153) (A0 153) → pmE pg X pg_tyl pg_cl (d + 3) 238 38 [.ref 147, .int x1, .int y2] [] (md wc f A') Q) : ∀ (m : Nat) (A : Nat → List Int32) (x2 : Int32), MI f A → (∀ k : Nat, k ≠ 152 → k ≠ 153 → A k = A0 k) → (0 ≤ x2.toInt ∧ x2.toInt ≤ 30) → DI (A 152) (A0 152) 0 0 → RE (A 153) (A0 153) → 30 - x2.toInt < (m : Int) → pmE pg X pg_tyl pg_cl (d + 3) 238 2 [.ref 147, .int x1, .int x2] [] (md wc f A) Q := by
  intro m
  induction m with
  | zero =>
    intro A x2 hI hF gx2 hpi0 hpi1 hm
    exfalso
    have l0 := zi_lo x2
    have u0 := zi_hi x2
    omega
  | succ m ih =>
    intro A x2 hI hF gx2 hpi0 hpi1 hm
    refine pe_iload_n (j := 2) (by decide +kernel) rfl ?_
    refine pe_aload_n (j := 0) (by decide +kernel) rfl ?_
    refine pe_get (j := 175) (ci := 12) (n := 14) (by decide +kernel) (by decide +kernel) (md_o hc) rfl ?_
    have hr_f_14 := mf_14 hI
    refine pz_icmp_ge (off := 31) (t := 38) (by decide +kernel) (by decide) rfl rfl rfl (fun h1 => ?_) (fun h1 => ?_)
    · skip
      exact k_38_0 A x2 hI (fun k n152 n153 => (hF k n152 n153)) (by omega) hpi0 hpi1
    · skip
      refine pe_aload_n (j := 0) (by decide +kernel) rfl ?_
      refine pe_iload_n (j := 2) (by decide +kernel) rfl ?_
      refine pi_V (j := 190) (mj := 236) (by decide +kernel) (cll_V (args := [.int x2]) (n := 1) (by decide +kernel) rfl rfl (md_o hc) (by decide +kernel) (Nat.le_of_ble_eq_true rfl) (Nat.le_of_ble_eq_true rfl)) ?_
      show pmE pg X pg_tyl pg_cl (d + 2) 236 0 [.ref 147, .int x2] [] (md wc f A) _
      refine pe_aload_n (j := 0) (by decide +kernel) rfl ?_
      refine pe_get (j := 26) (ci := 12) (n := 13) (by decide +kernel) (by decide +kernel) (md_o hc) rfl ?_
      refine pe_bipushv (n := 10) (v := 10) (by decide +kernel) (by decide +kernel) ?_
      refine pe_iload_n (j := 1) (by decide +kernel) rfl ?_
      refine pz_mul (by decide +kernel) kz_10 rfl (by omega) (by omega) (fun z2 hz2 => ?_)
      refine pe_iconstv (n := 3) (v := 3) (by decide +kernel) (by decide +kernel) ?_
      refine pz_add (by decide +kernel) hz2 kz_3 (by omega) (by omega) (fun z3 hz3 => ?_)
      clear hz2
      refine pz_iald (by decide +kernel) (md_a153 hc) (mlen_153 hI) hz3 (by omega) (by omega) (fun v4 ev4 => ?_)
      clear hz3
      refine pe_iconstv (n := 1) (v := 1) (by decide +kernel) (by decide +kernel) ?_
      have lw6 := zi_lo v4
      have uw6 := zi_hi v4
      refine pz_icmp_ne (off := 7) (t := 19) (by decide +kernel) (by decide) rfl rfl kz_1 (fun h5 => ?_) (fun h5 => ?_)
      · skip
        refine pe_iconstv (n := 0) (v := 0) (by decide +kernel) (by decide +kernel) ?_
        refine pe_iret (by decide +kernel) rfl rfl ⟨rfl, rfl, ?_⟩
        show pmE pg X pg_tyl pg_cl (d + 3) 238 15 [.ref 147, .int x1, .int x2] [.int 0] (md wc f A) _
        refine pz_if_eq (off := 17) (t := 32) (by decide +kernel) (by decide) rfl kz_0 (fun h7 => ?_) (fun h7 => by omega)
        refine pz_iinc (j := 2) (n := 1) (by decide +kernel) rfl rfl (by decide +kernel) (by omega) (by omega) (fun z8 hz8 => ?_)
        show pmE pg X pg_tyl pg_cl (d + 3) 238 35 [.ref 147, .int x1, .int z8] [] (md wc f A) _
        refine pe_goto (off := (-33)) (t := 2) (by decide +kernel) (by decide) rfl ?_
        exact ih A z8 hI (fun k n152 n153 => (hF k n152 n153)) (by omega) hpi0 hpi1 (by omega)
      · skip
        refine pe_iconstv (n := 1) (v := 1) (by decide +kernel) (by decide +kernel) ?_
        refine pe_goto (off := 4) (t := 20) (by decide +kernel) (by decide) rfl ?_
        refine pe_iret (by decide +kernel) rfl rfl ⟨rfl, rfl, ?_⟩
        show pmE pg X pg_tyl pg_cl (d + 3) 238 15 [.ref 147, .int x1, .int x2] [.int 1] (md wc f A) _
        refine pz_if_eq (off := 17) (t := 32) (by decide +kernel) (by decide) rfl kz_1 (fun h9 => by omega) (fun h9 => ?_)
        refine pe_aload_n (j := 0) (by decide +kernel) rfl ?_
        refine pe_iload_n (j := 2) (by decide +kernel) rfl ?_
        refine pe_iload_n (j := 1) (by decide +kernel) rfl ?_
        refine pz_callV (j := 193) (mj := 239) (by decide +kernel) (cll_V (args := [.int x1, .int x2]) (n := 2) (by decide +kernel) rfl rfl (md_o hc) (by decide +kernel) (Nat.le_of_ble_eq_true rfl) (Nat.le_of_ble_eq_true rfl)) (MM_239 hc hI (by omega)) (fun q10a q10b q10c q10d hqq10 => ?_)
        obtain ⟨rq10, eq10, kq10⟩ := hqq10
        cases eq10
        refine ⟨rfl, rfl, ?_⟩
        show pmE pg X pg_tyl pg_cl (d + 3) 238 24 [.ref 147, .int x1, .int x2] [.int rq10] (md wc f A) _
        refine pz_if_eq (off := 8) (t := 32) (by decide +kernel) (by decide) rfl rfl (fun h11 => ?_) (fun h11 => ?_)
        · skip
          refine pz_iinc (j := 2) (n := 1) (by decide +kernel) rfl rfl (by decide +kernel) (by omega) (by omega) (fun z12 hz12 => ?_)
          show pmE pg X pg_tyl pg_cl (d + 3) 238 35 [.ref 147, .int x1, .int z12] [] (md wc f A) _
          refine pe_goto (off := (-33)) (t := 2) (by decide +kernel) (by decide) rfl ?_
          exact ih A z12 hI (fun k n152 n153 => (hF k n152 n153)) (by omega) hpi0 hpi1 (by omega)
        · skip
          refine pe_aload_n (j := 0) (by decide +kernel) rfl ?_
          refine pe_iload_n (j := 2) (by decide +kernel) rfl ?_
          refine pz_callV (j := 196) (mj := 237) (by decide +kernel) (cll_V (args := [.int x2]) (n := 1) (by decide +kernel) rfl rfl (md_o hc) (by decide +kernel) (Nat.le_of_ble_eq_true rfl) (Nat.le_of_ble_eq_true rfl)) (NM_237 hc hI (by omega) (DI_n0 hpi0 hpk0) ((RG_re hpk1 hpi1) x2.toInt (by omega) (by omega))) (fun q13a q13b q13c q13d hqq13 => ?_)
          obtain ⟨A14, eq13, hIq13, hFq13, kq13⟩ := hqq13
          cases eq13
          refine ⟨rfl, rfl, ?_⟩
          obtain ⟨hp15, hp16, kq13⟩ := kq13
          show pmE pg X pg_tyl pg_cl (d + 3) 238 32 [.ref 147, .int x1, .int x2] [] (md wc f A14) _
          refine pz_iinc (j := 2) (n := 1) (by decide +kernel) rfl rfl (by decide +kernel) (by omega) (by omega) (fun z17 hz17 => ?_)
          show pmE pg X pg_tyl pg_cl (d + 3) 238 35 [.ref 147, .int x1, .int z17] [] (md wc f A14) _
          refine pe_goto (off := (-33)) (t := 2) (by decide +kernel) (by decide) rfl ?_
          exact ih A14 z17 hIq13 (fun k n152 n153 => ((hFq13 k n152 n153)).trans ((hF k n152 n153))) (by omega) (DI_trans hp15 hpi0 (by decide) (by decide)) (RE_trans hp16 hpi1) (by omega)
set_option maxRecDepth 100000 in
set_option maxHeartbeats 8000000 in
theorem NM_238 {X : pm_X} {d : Nat} {wc : pm_W} {f : Nat → Int32} {A : Nat → List Int32} {x1 : Int32} (hc : wc.length = 147) (hI : MI f A) (gx1 : (0 ≤ x1.toInt ∧ x1.toInt ≤ 8)) (hpp0 : N0 (A 152)) (hpp1 : RG (A 153) (f 14).toInt) : pmE pg X pg_tyl pg_cl (d + 3) 238 0 (pm_ent (pm_max pg 238) [.ref 147, .int x1]) [] (md wc f A) (fun q => ∃ (A' : Nat → List Int32), q = (none, md wc f A', 0, 0) ∧ MI f A' ∧ (∀ k : Nat, k ≠ 152 → k ≠ 153 → A' k = A k) ∧ ((DI (A' 152) (A 152) 0 0 ∧ RE (A' 153) (A 153) ∧ True))) := by
  show pmE pg X pg_tyl pg_cl (d + 3) 238 0 [.ref 147, .int x1, pm_dead] [] (md wc f A) _
  refine pe_iconstv (n := 0) (v := 0) (by decide +kernel) (by decide +kernel) ?_
  refine pe_istore_n (j := 2) (ls' := [.ref 147, .int x1, .int 0]) (by decide +kernel) (Nat.le_of_ble_eq_true rfl) rfl ?_
  refine NL_238_2 hc (by omega) hpp0 hpp1 (fun A1 y2 hIy3 hFA1 gy2 hp4 hp5 => ?_) 31 A 0 hI (fun k _ _ => rfl) (by decide +kernel) (DI_refl hpp0 (by decide)) RE_refl (by decide +kernel)
  refine pe_iconstv (n := 0) (v := 0) (by decide +kernel) (by decide +kernel) ?_
  refine pe_istore_n (j := 2) (ls' := [.ref 147, .int x1, .int 0]) (by decide +kernel) (Nat.le_of_ble_eq_true rfl) rfl ?_
  have hz10 := DI_n0 hp4 hpp0
  refine NL_238_40 hc (by omega) (fun A6 y7 hIy8 hFA6 gy7 hp9 => ?_) 10 A1 0 hIy3 (fun k _ => rfl) (by decide +kernel) (DI_refl hz10 (by decide)) (by decide +kernel)
  exact pe_vret (by decide +kernel) rfl ⟨A6, rfl, hIy8, (fun k n152 n153 => ((hFA6 k n152)).trans ((hFA1 k n152 n153))), ⟨(DI_trans hp9 hp4 (by decide) (by decide)), (by rw [show A6 153 = A1 153 from (hFA6 153 (by decide))]; exact hp5), trivial⟩⟩
set_option maxRecDepth 100000 in
set_option maxHeartbeats 8000000 in
theorem NL_240_12 {X : pm_X} {d : Nat} {wc : pm_W} {Q : pm_R → Prop} {f : Nat → Int32} {A0 : Nat → List Int32} (hc : wc.length = 147) (hpk0 : N0 (A0 152)) (hpk1 : RG (A0 153) (f 14).toInt) (k_57_0 : ∀ (A' : Nat → List Int32) (y1 : Int32), MI f A' → (∀ k : Nat, k ≠ 152 → k ≠ 153 → A' k = A0 k) → (0 ≤ y1.toInt ∧ y1.toInt ≤ 30) → DI (A' 152) (A0 152) 0 0 → RE (A' 153) (A0 153) → pmE pg X pg_tyl pg_cl (d + 3) 240 57 [.ref 147, .int y1] [] (md wc f A') Q) : ∀ (m : Nat) (A : Nat → List Int32) (x1 : Int32), MI f A → (∀ k : Nat, k ≠ 152 → k ≠ 153 → A k = A0 k) → (0 ≤ x1.toInt ∧ x1.toInt ≤ 30) → DI (A 152) (A0 152) 0 0 → RE (A 153) (A0 153) → 30 - x1.toInt < (m : Int) → pmE pg X pg_tyl pg_cl (d + 3) 240 12 [.ref 147, .int x1] [] (md wc f A) Q := by
  intro m
  induction m with
  | zero =>
    intro A x1 hI hF gx1 hpi0 hpi1 hm
    exfalso
    have l0 := zi_lo x1
    have u0 := zi_hi x1
    omega
  | succ m ih =>
    intro A x1 hI hF gx1 hpi0 hpi1 hm
    refine pe_iload_n (j := 1) (by decide +kernel) rfl ?_
    refine pe_aload_n (j := 0) (by decide +kernel) rfl ?_
    refine pe_get (j := 175) (ci := 12) (n := 14) (by decide +kernel) (by decide +kernel) (md_o hc) rfl ?_
    have hr_f_14 := mf_14 hI
    refine pz_icmp_ge (off := 40) (t := 57) (by decide +kernel) (by decide) rfl rfl rfl (fun h1 => ?_) (fun h1 => ?_)
    · skip
      exact k_57_0 A x1 hI (fun k n152 n153 => (hF k n152 n153)) (by omega) hpi0 hpi1
    · skip
      refine pe_aload_n (j := 0) (by decide +kernel) rfl ?_
      refine pe_iload_n (j := 1) (by decide +kernel) rfl ?_
      refine pi_V (j := 190) (mj := 236) (by decide +kernel) (cll_V (args := [.int x1]) (n := 1) (by decide +kernel) rfl rfl (md_o hc) (by decide +kernel) (Nat.le_of_ble_eq_true rfl) (Nat.le_of_ble_eq_true rfl)) ?_
      show pmE pg X pg_tyl pg_cl (d + 2) 236 0 [.ref 147, .int x1] [] (md wc f A) _
      refine pe_aload_n (j := 0) (by decide +kernel) rfl ?_
      refine pe_get (j := 26) (ci := 12) (n := 13) (by decide +kernel) (by decide +kernel) (md_o hc) rfl ?_
      refine pe_bipushv (n := 10) (v := 10) (by decide +kernel) (by decide +kernel) ?_
      refine pe_iload_n (j := 1) (by decide +kernel) rfl ?_
      refine pz_mul (by decide +kernel) kz_10 rfl (by omega) (by omega) (fun z2 hz2 => ?_)
      refine pe_iconstv (n := 3) (v := 3) (by decide +kernel) (by decide +kernel) ?_
      refine pz_add (by decide +kernel) hz2 kz_3 (by omega) (by omega) (fun z3 hz3 => ?_)
      clear hz2
      refine pz_iald (by decide +kernel) (md_a153 hc) (mlen_153 hI) hz3 (by omega) (by omega) (fun v4 ev4 => ?_)
      clear hz3
      refine pe_iconstv (n := 1) (v := 1) (by decide +kernel) (by decide +kernel) ?_
      have lw6 := zi_lo v4
      have uw6 := zi_hi v4
      refine pz_icmp_ne (off := 7) (t := 19) (by decide +kernel) (by decide) rfl rfl kz_1 (fun h5 => ?_) (fun h5 => ?_)
      · skip
        refine pe_iconstv (n := 0) (v := 0) (by decide +kernel) (by decide +kernel) ?_
        refine pe_iret (by decide +kernel) rfl rfl ⟨rfl, rfl, ?_⟩
        show pmE pg X pg_tyl pg_cl (d + 3) 240 25 [.ref 147, .int x1] [.int 0] (md wc f A) _
        refine pz_if_eq (off := 26) (t := 51) (by decide +kernel) (by decide) rfl kz_0 (fun h7 => ?_) (fun h7 => by omega)
        refine pz_iinc (j := 1) (n := 1) (by decide +kernel) rfl rfl (by decide +kernel) (by omega) (by omega) (fun z8 hz8 => ?_)
        show pmE pg X pg_tyl pg_cl (d + 3) 240 54 [.ref 147, .int z8] [] (md wc f A) _
        refine pe_goto (off := (-42)) (t := 12) (by decide +kernel) (by decide) rfl ?_
        exact ih A z8 hI (fun k n152 n153 => (hF k n152 n153)) (by omega) hpi0 hpi1 (by omega)
      · skip
        refine pe_iconstv (n := 1) (v := 1) (by decide +kernel) (by decide +kernel) ?_
        refine pe_goto (off := 4) (t := 20) (by decide +kernel) (by decide) rfl ?_
        refine pe_iret (by decide +kernel) rfl rfl ⟨rfl, rfl, ?_⟩
        show pmE pg X pg_tyl pg_cl (d + 3) 240 25 [.ref 147, .int x1] [.int 1] (md wc f A) _
        refine pz_if_eq (off := 26) (t := 51) (by decide +kernel) (by decide) rfl kz_1 (fun h9 => by omega) (fun h9 => ?_)
        refine pe_aload_n (j := 0) (by decide +kernel) rfl ?_
        refine pe_get (j := 26) (ci := 12) (n := 13) (by decide +kernel) (by decide +kernel) (md_o hc) rfl ?_
        refine pe_bipushv (n := 10) (v := 10) (by decide +kernel) (by decide +kernel) ?_
        refine pe_iload_n (j := 1) (by decide +kernel) rfl ?_
        refine pz_mul (by decide +kernel) kz_10 rfl (by omega) (by omega) (fun z10 hz10 => ?_)
        refine pe_iconstv (n := 2) (v := 2) (by decide +kernel) (by decide +kernel) ?_
        refine pz_add (by decide +kernel) hz10 kz_2 (by omega) (by omega) (fun z11 hz11 => ?_)
        clear hz10
        refine pz_iald (by decide +kernel) (md_a153 hc) (mlen_153 hI) hz11 (by omega) (by omega) (fun v12 ev12 => ?_)
        clear hz11
        refine pe_aload_n (j := 0) (by decide +kernel) rfl ?_
        refine pe_get (j := 178) (ci := 12) (n := 15) (by decide +kernel) (by decide +kernel) (md_o hc) rfl ?_
        have lw14 := zi_lo v12
        have uw14 := zi_hi v12
        have lw15 := zi_lo (f 15)
        have uw15 := zi_hi (f 15)
        refine pz_icmp_ge (off := 8) (t := 51) (by decide +kernel) (by decide) rfl rfl rfl (fun h13 => ?_) (fun h13 => ?_)
        · skip
          refine pz_iinc (j := 1) (n := 1) (by decide +kernel) rfl rfl (by decide +kernel) (by omega) (by omega) (fun z16 hz16 => ?_)
          show pmE pg X pg_tyl pg_cl (d + 3) 240 54 [.ref 147, .int z16] [] (md wc f A) _
          refine pe_goto (off := (-42)) (t := 12) (by decide +kernel) (by decide) rfl ?_
          exact ih A z16 hI (fun k n152 n153 => (hF k n152 n153)) (by omega) hpi0 hpi1 (by omega)
        · skip
          refine pe_aload_n (j := 0) (by decide +kernel) rfl ?_
          refine pe_iload_n (j := 1) (by decide +kernel) rfl ?_
          refine pz_callV (j := 196) (mj := 237) (by decide +kernel) (cll_V (args := [.int x1]) (n := 1) (by decide +kernel) rfl rfl (md_o hc) (by decide +kernel) (Nat.le_of_ble_eq_true rfl) (Nat.le_of_ble_eq_true rfl)) (NM_237 hc hI (by omega) (DI_n0 hpi0 hpk0) ((RG_re hpk1 hpi1) x1.toInt (by omega) (by omega))) (fun q17a q17b q17c q17d hqq17 => ?_)
          obtain ⟨A18, eq17, hIq17, hFq17, kq17⟩ := hqq17
          cases eq17
          refine ⟨rfl, rfl, ?_⟩
          obtain ⟨hp19, hp20, kq17⟩ := kq17
          show pmE pg X pg_tyl pg_cl (d + 3) 240 51 [.ref 147, .int x1] [] (md wc f A18) _
          refine pz_iinc (j := 1) (n := 1) (by decide +kernel) rfl rfl (by decide +kernel) (by omega) (by omega) (fun z21 hz21 => ?_)
          show pmE pg X pg_tyl pg_cl (d + 3) 240 54 [.ref 147, .int z21] [] (md wc f A18) _
          refine pe_goto (off := (-42)) (t := 12) (by decide +kernel) (by decide) rfl ?_
          exact ih A18 z21 hIq17 (fun k n152 n153 => ((hFq17 k n152 n153)).trans ((hF k n152 n153))) (by omega) (DI_trans hp19 hpi0 (by decide) (by decide)) (RE_trans hp20 hpi1) (by omega)
set_option maxRecDepth 100000 in
set_option maxHeartbeats 8000000 in
theorem NM_240 {X : pm_X} {d : Nat} {wc : pm_W} {f : Nat → Int32} {A : Nat → List Int32} (hc : wc.length = 147) (hI : MI f A) (hpp0 : N0 (A 152)) (hpp1 : RG (A 153) (f 14).toInt) : pmE pg X pg_tyl pg_cl (d + 3) 240 0 (pm_ent (pm_max pg 240) [.ref 147]) [] (md wc f A) (fun q => ∃ (f' : Nat → Int32) (A' : Nat → List Int32), q = (none, md wc f' A', 0, 0) ∧ MI f' A' ∧ (∀ k : Nat, k ≠ 15 → f' k = f k) ∧ (∀ k : Nat, k ≠ 152 → k ≠ 153 → A' k = A k) ∧ ((DI (A' 152) (A 152) 0 0 ∧ RE (A' 153) (A 153) ∧ True))) := by
  show pmE pg X pg_tyl pg_cl (d + 3) 240 0 [.ref 147, pm_dead] [] (md wc f A) _
  refine pe_aload_n (j := 0) (by decide +kernel) rfl ?_
  refine pe_dup (by decide +kernel) rfl ?_
  refine pe_get (j := 178) (ci := 12) (n := 15) (by decide +kernel) (by decide +kernel) (md_o hc) rfl ?_
  refine pe_iconstv (n := 1) (v := 1) (by decide +kernel) (by decide +kernel) ?_
  refine pw_add (by decide +kernel) (fun z1 => ?_)
  refine mz_put15 (jj := 178) (by decide +kernel) (by decide +kernel) hc hI (fun f2 ef2 hIf2 => ?_)
  refine pe_iconstv (n := 0) (v := 0) (by decide +kernel) (by decide +kernel) ?_
  refine pe_istore_n (j := 1) (ls' := [.ref 147, .int 0]) (by decide +kernel) (Nat.le_of_ble_eq_true rfl) rfl ?_
  have hr_f_14 := mf_14 hI
  refine NL_240_12 hc hpp0 (by rw [show f2 14 = f 14 from upf_fr ef2 (by decide)]; exact hpp1) (fun A3 y4 hIy5 hFA3 gy4 hp6 hp7 => ?_) 31 A 0 hIf2 (fun k _ _ => rfl) (by decide +kernel) (DI_refl hpp0 (by decide)) RE_refl (by decide +kernel)
  exact pe_vret (by decide +kernel) rfl ⟨f2, A3, rfl, hIy5, (fun k n15 => upf_fr ef2 n15), (fun k n152 n153 => (hFA3 k n152 n153)), ⟨hp6, hp7, trivial⟩⟩
