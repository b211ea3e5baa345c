set_option maxRecDepth 100000 in
set_option maxHeartbeats 8000000 in
theorem MM_235 {X : pm_X} {d : Nat} {wc : pm_W} {f : Nat → Int32} {A : Nat → List Int32} {x1 x2 : Int32} (hc : wc.length = 147) (hI : MI f A) (gx1 : (0 ≤ x1.toInt ∧ x1.toInt ≤ 30)) (gx2 : (0 ≤ x2.toInt ∧ x2.toInt ≤ 5)) : pmE pg X pg_tyl pg_cl (d + 1) 235 0 (pm_ent (pm_max pg 235) [.ref 147, .int x1, .int x2]) [] (md wc f A) (fun q => ∃ (r : Int32), q = (some (.int r), md wc f A, 0, 0) ∧ (((0 ≤ r.toInt ∧ r.toInt ≤ 8) ∧ True))) := by
  show pmE pg X pg_tyl pg_cl (d + 1) 235 0 [.ref 147, .int x1, .int x2] [] (md wc f A) _
  refine pe_aload_n (j := 0) (by decide +kernel) rfl ?_
  refine pe_iload_n (j := 1) (by decide +kernel) rfl ?_
  refine pe_iload_n (j := 2) (by decide +kernel) rfl ?_
  refine pe_iconstv (n := 1) (v := 1) (by decide +kernel) (by decide +kernel) ?_
  refine pz_add (by decide +kernel) rfl kz_1 (by omega) (by omega) (fun z1 hz1 => ?_)
  refine pe_aload_n (j := 0) (by decide +kernel) rfl ?_
  refine pe_get (j := 26) (ci := 12) (n := 13) (by decide +kernel) (by decide +kernel) (md_o hc) rfl ?_
  refine pe_bipushv (n := 10) (v := 10) (by decide +kernel) (by decide +kernel) ?_
  refine pe_iload_n (j := 1) (by decide +kernel) rfl ?_
  refine pz_mul (by decide +kernel) kz_10 rfl (by omega) (by omega) (fun z2 hz2 => ?_)
  refine mz_ld153 (by decide +kernel) hc hI hz2 (by omega) (by omega) (fun v3 ev3 pv3 => ?_)
  have rv3 : 0 ≤ v3.toInt ∧ v3.toInt ≤ 6 := by have p := pv3; simp only [MP_rings] at p; omega
  clear hz2
  refine pz_icmp_ne (off := 7) (t := 21) (by decide +kernel) (by decide) rfl hz1 rfl (fun h4 => ?_) (fun h4 => ?_)
  · skip
    clear hz1
    refine pe_iload_n (j := 2) (by decide +kernel) rfl ?_
    refine pe_iconstv (n := 1) (v := 1) (by decide +kernel) (by decide +kernel) ?_
    refine pz_add (by decide +kernel) rfl kz_1 (by omega) (by omega) (fun z5 hz5 => ?_)
    refine pi_V (j := 184) (mj := 234) (by decide +kernel) (cll_V (args := [.int z5, .int x1]) (n := 2) (by decide +kernel) rfl rfl (md_o hc) (by decide +kernel) (Nat.le_of_ble_eq_true rfl) (Nat.le_of_ble_eq_true rfl)) ?_
    show pmE pg X pg_tyl pg_cl (d) 234 0 [.ref 147, .int x1, .int z5] [] (md wc f A) _
    refine pe_aload_n (j := 0) (by decide +kernel) rfl ?_
    refine pe_get (j := 26) (ci := 12) (n := 13) (by decide +kernel) (by decide +kernel) (md_o hc) rfl ?_
    refine pe_bipushv (n := 10) (v := 10) (by decide +kernel) (by decide +kernel) ?_
    refine pe_iload_n (j := 1) (by decide +kernel) rfl ?_
    refine pz_mul (by decide +kernel) kz_10 rfl (by omega) (by omega) (fun z6 hz6 => ?_)
    refine pe_iconstv (n := 4) (v := 4) (by decide +kernel) (by decide +kernel) ?_
    refine pz_add (by decide +kernel) hz6 kz_4 (by omega) (by omega) (fun z7 hz7 => ?_)
    clear hz6
    refine pe_iload_n (j := 2) (by decide +kernel) rfl ?_
    refine pz_add (by decide +kernel) hz7 hz5 (by omega) (by omega) (fun z8 hz8 => ?_)
    clear hz7
    refine mz_ld153 (by decide +kernel) hc hI hz8 (by omega) (by omega) (fun v9 ev9 pv9 => ?_)
    have rv9 : 0 ≤ v9.toInt ∧ v9.toInt ≤ 8 := by have p := pv9; simp only [MP_rings] at p; omega
    clear hz8
    refine pe_iret (by decide +kernel) rfl rfl ⟨rfl, rfl, ?_⟩
    show pmE pg X pg_tyl pg_cl (d + 1) 235 27 [.ref 147, .int x1, .int x2] [.int v9] (md wc f A) _
    exact pe_iret (by decide +kernel) rfl rfl ⟨v9, rfl, ⟨(by omega), trivial⟩⟩
  · skip
    clear hz1
    refine pe_iconstv (n := 0) (v := 0) (by decide +kernel) (by decide +kernel) ?_
    refine pe_goto (off := 6) (t := 24) (by decide +kernel) (by decide) rfl ?_
    refine pi_V (j := 184) (mj := 234) (by decide +kernel) (cll_V (args := [.int 0, .int x1]) (n := 2) (by decide +kernel) rfl rfl (md_o hc) (by decide +kernel) (Nat.le_of_ble_eq_true rfl) (Nat.le_of_ble_eq_true rfl)) ?_
    show pmE pg X pg_tyl pg_cl (d) 234 0 [.ref 147, .int x1, .int 0] [] (md wc f A) _
    refine pe_aload_n (j := 0) (by decide +kernel) rfl ?_
    refine pe_get (j := 26) (ci := 12) (n := 13) (by decide +kernel) (by decide +kernel) (md_o hc) rfl ?_
    refine pe_bipushv (n := 10) (v := 10) (by decide +kernel) (by decide +kernel) ?_
    refine pe_iload_n (j := 1) (by decide +kernel) rfl ?_
    refine pz_mul (by decide +kernel) kz_10 rfl (by omega) (by omega) (fun z10 hz10 => ?_)
    refine pe_iconstv (n := 4) (v := 4) (by decide +kernel) (by decide +kernel) ?_
    refine pz_add (by decide +kernel) hz10 kz_4 (by omega) (by omega) (fun z11 hz11 => ?_)
    clear hz10
    refine pe_iload_n (j := 2) (by decide +kernel) rfl ?_
    refine pz_add (by decide +kernel) hz11 kz_0 (by omega) (by omega) (fun z12 hz12 => ?_)
    clear hz11
    refine mz_ld153 (by decide +kernel) hc hI hz12 (by omega) (by omega) (fun v13 ev13 pv13 => ?_)
    have rv13 : 0 ≤ v13.toInt ∧ v13.toInt ≤ 8 := by have p := pv13; simp only [MP_rings] at p; omega
    clear hz12
    refine pe_iret (by decide +kernel) rfl rfl ⟨rfl, rfl, ?_⟩
    show pmE pg X pg_tyl pg_cl (d + 1) 235 27 [.ref 147, .int x1, .int x2] [.int v13] (md wc f A) _
    exact pe_iret (by decide +kernel) rfl rfl ⟨v13, rfl, ⟨(by omega), trivial⟩⟩
set_option maxRecDepth 100000 in
set_option maxHeartbeats 8000000 in
theorem ML_237_2 {X : pm_X} {d : Nat} {wc : pm_W} {Q : pm_R → Prop} {f : Nat → Int32} {A0 : Nat → List Int32} {x1 : Int32} (hc : wc.length = 147) (gx1 : (0 ≤ x1.toInt ∧ x1.toInt ≤ 30)) (k_86_0 : ∀ (A' : Nat → List Int32) (y2 : Int32) (v3 : Value), MI f A' → (∀ k : Nat, k ≠ 152 → A' k = A0 k) → (0 ≤ y2.toInt ∧ y2.toInt ≤ 6) → pmE pg X pg_tyl pg_cl (d + 2) 237 86 [.ref 147, .int x1, .int y2, v3] [] (md wc f A') Q) : ∀ (m : Nat) (A : Nat → List Int32) (x2 : Int32) (u3 : Value), MI f A → (∀ k : Nat, k ≠ 152 → A k = A0 k) → (0 ≤ x2.toInt ∧ x2.toInt ≤ 6) → 6 - x2.toInt < (m : Int) → pmE pg X pg_tyl pg_cl (d + 2) 237 2 [.ref 147, .int x1, .int x2, u3] [] (md wc f A) Q := by
  intro m
  induction m with
  | zero =>
    intro A x2 u3 hI hF gx2 hm
    exfalso
    have l0 := zi_lo x2
    have u0 := zi_hi x2
    omega
  | succ m ih =>
    intro A x2 u3 hI hF gx2 hm
    refine pe_iload_n (j := 2) (by decide +kernel) rfl ?_
    refine pe_aload_n (j := 0) (by decide +kernel) rfl ?_
    refine pe_get (j := 26) (ci := 12) (n := 13) (by decide +kernel) (by decide +kernel) (md_o hc) rfl ?_
    refine pe_bipushv (n := 10) (v := 10) (by decide +kernel) (by decide +kernel) ?_
    refine pe_iload_n (j := 1) (by decide +kernel) rfl ?_
    refine pz_mul (by decide +kernel) kz_10 rfl (by omega) (by omega) (fun z1 hz1 => ?_)
    refine mz_ld153 (by decide +kernel) hc hI hz1 (by omega) (by omega) (fun v2 ev2 pv2 => ?_)
    rw [show A 153 = A0 153 from (hF 153 (by decide))] at ev2
    have rv2 : 0 ≤ v2.toInt ∧ v2.toInt ≤ 6 := by have p := pv2; simp only [MP_rings] at p; omega
    clear hz1
    refine pz_icmp_ge (off := 74) (t := 86) (by decide +kernel) (by decide) rfl rfl rfl (fun h3 => ?_) (fun h3 => ?_)
    · skip
      exact k_86_0 A x2 (u3) hI (fun k n152 => (hF k n152)) (by omega)
    · skip
      refine pe_bipushv (n := 9) (v := 9) (by decide +kernel) (by decide +kernel) ?_
      refine pe_aload_n (j := 0) (by decide +kernel) rfl ?_
      refine pe_iload_n (j := 1) (by decide +kernel) rfl ?_
      refine pe_iload_n (j := 2) (by decide +kernel) rfl ?_
      refine pi_V (j := 184) (mj := 234) (by decide +kernel) (cll_V (args := [.int x2, .int x1]) (n := 2) (by decide +kernel) rfl rfl (md_o hc) (by decide +kernel) (Nat.le_of_ble_eq_true rfl) (Nat.le_of_ble_eq_true rfl)) ?_
      show pmE pg X pg_tyl pg_cl (d + 1) 234 0 [.ref 147, .int x1, .int x2] [] (md wc f A) _
      refine pe_aload_n (j := 0) (by decide +kernel) rfl ?_
      refine pe_get (j := 26) (ci := 12) (n := 13) (by decide +kernel) (by decide +kernel) (md_o hc) rfl ?_
      refine pe_bipushv (n := 10) (v := 10) (by decide +kernel) (by decide +kernel) ?_
      refine pe_iload_n (j := 1) (by decide +kernel) rfl ?_
      refine pz_mul (by decide +kernel) kz_10 rfl (by omega) (by omega) (fun z4 hz4 => ?_)
      refine pe_iconstv (n := 4) (v := 4) (by decide +kernel) (by decide +kernel) ?_
      refine pz_add (by decide +kernel) hz4 kz_4 (by omega) (by omega) (fun z5 hz5 => ?_)
      clear hz4
      refine pe_iload_n (j := 2) (by decide +kernel) rfl ?_
      refine pz_add (by decide +kernel) hz5 rfl (by omega) (by omega) (fun z6 hz6 => ?_)
      clear hz5
      refine mz_ld153 (by decide +kernel) hc hI hz6 (by omega) (by omega) (fun v7 ev7 pv7 => ?_)
      rw [show A 153 = A0 153 from (hF 153 (by decide))] at ev7
      have rv7 : 0 ≤ v7.toInt ∧ v7.toInt ≤ 8 := by have p := pv7; simp only [MP_rings] at p; omega
      clear hz6
      refine pe_iret (by decide +kernel) rfl rfl ⟨rfl, rfl, ?_⟩
      show pmE pg X pg_tyl pg_cl (d + 2) 237 23 [.ref 147, .int x1, .int x2, u3] [.int v7, .int 9] (md wc f A) _
      refine pz_mul (by decide +kernel) kz_9 rfl (by omega) (by omega) (fun z8 hz8 => ?_)
      refine pe_aload_n (j := 0) (by decide +kernel) rfl ?_
      refine pe_iload_n (j := 1) (by decide +kernel) rfl ?_
      refine pe_iload_n (j := 2) (by decide +kernel) rfl ?_
      refine pz_callV (j := 187) (mj := 235) (by decide +kernel) (cll_V (args := [.int x2, .int x1]) (n := 2) (by decide +kernel) rfl rfl (md_o hc) (by decide +kernel) (Nat.le_of_ble_eq_true rfl) (Nat.le_of_ble_eq_true rfl)) (MM_235 hc hI (by omega) (by omega)) (fun q9a q9b q9c q9d hqq9 => ?_)
      obtain ⟨rq9, eq9, kq9⟩ := hqq9
      cases eq9
      refine ⟨rfl, rfl, ?_⟩
      show pmE pg X pg_tyl pg_cl (d + 2) 237 30 [.ref 147, .int x1, .int x2, u3] [.int rq9, .int z8] (md wc f A) _
      refine pz_add (by decide +kernel) hz8 rfl (by omega) (by omega) (fun z10 hz10 => ?_)
      clear hz8
      refine pe_istore_n (j := 3) (ls' := [.ref 147, .int x1, .int x2, .int z10]) (by decide +kernel) (Nat.le_of_ble_eq_true rfl) rfl ?_
      refine pe_aload_n (j := 0) (by decide +kernel) rfl ?_
      refine pe_get (j := 23) (ci := 12) (n := 12) (by decide +kernel) (by decide +kernel) (md_o hc) rfl ?_
      refine pe_iload_n (j := 3) (by decide +kernel) rfl ?_
      refine pe_aload_n (j := 0) (by decide +kernel) rfl ?_
      refine pe_get (j := 23) (ci := 12) (n := 12) (by decide +kernel) (by decide +kernel) (md_o hc) rfl ?_
      refine pe_iload_n (j := 3) (by decide +kernel) rfl ?_
      refine mz_ld152 (by decide +kernel) hc hI hz10 (by omega) (by omega) (fun v11 ev11 => ?_)
      refine pe_aload_n (j := 0) (by decide +kernel) rfl ?_
      refine pe_get (j := 26) (ci := 12) (n := 13) (by decide +kernel) (by decide +kernel) (md_o hc) rfl ?_
      refine pe_bipushv (n := 10) (v := 10) (by decide +kernel) (by decide +kernel) ?_
      refine pe_iload_n (j := 1) (by decide +kernel) rfl ?_
      refine pz_mul (by decide +kernel) kz_10 rfl (by omega) (by omega) (fun z12 hz12 => ?_)
      refine pe_iconstv (n := 1) (v := 1) (by decide +kernel) (by decide +kernel) ?_
      refine pz_add (by decide +kernel) hz12 kz_1 (by omega) (by omega) (fun z13 hz13 => ?_)
      clear hz12
      refine mz_ld153 (by decide +kernel) hc hI hz13 (by omega) (by omega) (fun v14 ev14 pv14 => ?_)
      rw [show A 153 = A0 153 from (hF 153 (by decide))] at ev14
      clear hz13
      have lw16 := zi_lo v11
      have uw16 := zi_hi v11
      have lw17 := zi_lo v14
      have uw17 := zi_hi v14
      refine pz_icmp_ge (off := 7) (t := 61) (by decide +kernel) (by decide) rfl rfl rfl (fun h15 => ?_) (fun h15 => ?_)
      · skip
        refine pe_aload_n (j := 0) (by decide +kernel) rfl ?_
        refine pe_get (j := 23) (ci := 12) (n := 12) (by decide +kernel) (by decide +kernel) (md_o hc) rfl ?_
        refine pe_iload_n (j := 3) (by decide +kernel) rfl ?_
        refine mz_ld152 (by decide +kernel) hc hI hz10 (by omega) (by omega) (fun v18 ev18 => ?_)
        rw [ev18.trans ev11.symm]
        clear ev18 v18
        refine pe_aload_n (j := 0) (by decide +kernel) rfl ?_
        refine pe_get (j := 26) (ci := 12) (n := 13) (by decide +kernel) (by decide +kernel) (md_o hc) rfl ?_
        refine pe_bipushv (n := 10) (v := 10) (by decide +kernel) (by decide +kernel) ?_
        refine pe_iload_n (j := 1) (by decide +kernel) rfl ?_
        refine pz_mul (by decide +kernel) kz_10 rfl (by omega) (by omega) (fun z19 hz19 => ?_)
        refine pe_iconstv (n := 1) (v := 1) (by decide +kernel) (by decide +kernel) ?_
        refine pz_add (by decide +kernel) hz19 kz_1 (by omega) (by omega) (fun z20 hz20 => ?_)
        clear hz19
        refine mz_ld153 (by decide +kernel) hc hI hz20 (by omega) (by omega) (fun v21 ev21 pv21 => ?_)
        rw [show A 153 = A0 153 from (hF 153 (by decide))] at ev21
        rw [ev21.trans ev14.symm]
        clear pv21 ev21 v21
        clear hz20
        refine pw_sub (by decide +kernel) (fun z22 => ?_)
        refine mz_st152 (by decide +kernel) hc hI hz10 (by omega) (by omega) (fun A23 eA23 hIA23 => ?_)
        refine pz_iinc (j := 2) (n := 1) (by decide +kernel) rfl rfl (by decide +kernel) (by omega) (by omega) (fun z24 hz24 => ?_)
        show pmE pg X pg_tyl pg_cl (d + 2) 237 83 [.ref 147, .int x1, .int z24, .int z10] [] (md wc f A23) _
        refine pe_goto (off := (-81)) (t := 2) (by decide +kernel) (by decide) rfl ?_
        exact ih A23 z24 (.int z10) hIA23 (fun k n152 => (upa_fr eA23 n152).trans ((hF k n152))) (by omega) (by omega)
      · skip
        refine pe_iconstv (n := 0) (v := 0) (by decide +kernel) (by decide +kernel) ?_
        refine pe_goto (off := 21) (t := 79) (by decide +kernel) (by decide) rfl ?_
        refine mz_st152 (by decide +kernel) hc hI hz10 (by omega) (by omega) (fun A25 eA25 hIA25 => ?_)
        refine pz_iinc (j := 2) (n := 1) (by decide +kernel) rfl rfl (by decide +kernel) (by omega) (by omega) (fun z26 hz26 => ?_)
        show pmE pg X pg_tyl pg_cl (d + 2) 237 83 [.ref 147, .int x1, .int z26, .int z10] [] (md wc f A25) _
        refine pe_goto (off := (-81)) (t := 2) (by decide +kernel) (by decide) rfl ?_
        exact ih A25 z26 (.int z10) hIA25 (fun k n152 => (upa_fr eA25 n152).trans ((hF k n152))) (by omega) (by omega)
set_option maxRecDepth 100000 in
set_option maxHeartbeats 8000000 in
theorem MM_237 {X : pm_X} {d : Nat} {wc : pm_W} {f : Nat → Int32} {A : Nat → List Int32} {x1 : Int32} (hc : wc.length = 147) (hI : MI f A) (gx1 : (0 ≤ x1.toInt ∧ x1.toInt ≤ 30)) : pmE pg X pg_tyl pg_cl (d + 2) 237 0 (pm_ent (pm_max pg 237) [.ref 147, .int x1]) [] (md wc f A) (fun q => ∃ (A' : Nat → List Int32), q = (none, md wc f A', 0, 0) ∧ MI f A' ∧ (∀ k : Nat, k ≠ 152 → k ≠ 153 → A' k = A k) ∧ ((True))) := by
  show pmE pg X pg_tyl pg_cl (d + 2) 237 0 [.ref 147, .int x1, pm_dead, pm_dead] [] (md wc f A) _
  refine pe_iconstv (n := 0) (v := 0) (by decide +kernel) (by decide +kernel) ?_
  refine pe_istore_n (j := 2) (ls' := [.ref 147, .int x1, .int 0, pm_dead]) (by decide +kernel) (Nat.le_of_ble_eq_true rfl) rfl ?_
  refine ML_237_2 hc (by omega) (fun A1 y3 u4 hIy2 hFhIy2 gy3 => ?_) 7 A 0 (pm_dead) hI (fun k _ => rfl) (by decide +kernel) (by decide +kernel)
  refine pe_aload_n (j := 0) (by decide +kernel) rfl ?_
  refine pe_get (j := 26) (ci := 12) (n := 13) (by decide +kernel) (by decide +kernel) (md_o hc) rfl ?_
  refine pe_bipushv (n := 10) (v := 10) (by decide +kernel) (by decide +kernel) ?_
  refine pe_iload_n (j := 1) (by decide +kernel) rfl ?_
  refine pz_mul (by decide +kernel) kz_10 rfl (by omega) (by omega) (fun z5 hz5 => ?_)
  refine pe_iconstv (n := 3) (v := 3) (by decide +kernel) (by decide +kernel) ?_
  refine pz_add (by decide +kernel) hz5 kz_3 (by omega) (by omega) (fun z6 hz6 => ?_)
  clear hz5
  refine pe_iconstv (n := 0) (v := 0) (by decide +kernel) (by decide +kernel) ?_
  refine mz_st153 (by decide +kernel) hc hIy2 hz6 (by omega) (by omega) (by rw [kz_0]; simp only [MP_rings]; omega) (fun A7 eA7 hIA7 => ?_)
  exact pe_vret (by decide +kernel) rfl ⟨A7, rfl, hIA7, (fun k n152 n153 => (upa_fr eA7 n153).trans ((hFhIy2 k n152))), trivial⟩
set_option maxRecDepth 100000 in
set_option maxHeartbeats 8000000 in
theorem ML_240_12 {X : pm_X} {d : Nat} {wc : pm_W} {Q : pm_R → Prop} {f : Nat → Int32} {A0 : Nat → List Int32} (hc : wc.length = 147) (k_57_0 : ∀ (A' : Nat → List Int32) (y1 : Int32), MI f A' → (∀ k : Nat, k ≠ 152 → k ≠ 153 → A' k = A0 k) → (0 ≤ y1.toInt ∧ y1.toInt ≤ 30) → pmE pg X pg_tyl pg_cl (d + 3) 240 57 [.ref 147, .int y1] [] (md wc f A') Q) : ∀ (m : Nat) (A : Nat → List Int32) (x1 : Int32), MI f A → (∀ k : Nat, k ≠ 152 → k ≠ 153 → A k = A0 k) → (0 ≤ x1.toInt ∧ x1.toInt ≤ 30) → 30 - x1.toInt < (m : Int) → pmE pg X pg_tyl pg_cl (d + 3) 240 12 [.ref 147, .int x1] [] (md wc f A) Q := by
  intro m
  induction m with
  | zero =>
    intro A x1 hI hF gx1 hm
    exfalso
    have l0 := zi_lo x1
    have u0 := zi_hi x1
    omega
  | succ m ih =>
    intro A x1 hI hF gx1 hm
    refine pe_iload_n (j := 1) (by decide +kernel) rfl ?_
    refine pe_aload_n (j := 0) (by decide +kernel) rfl ?_
    refine pe_get (j := 175) (ci := 12) (n := 14) (by decide +kernel) (by decide +kernel) (md_o hc) rfl ?_
    have hr_14_f := hI.1 14
    simp only [MF] at hr_14_f
    refine pz_icmp_ge (off := 40) (t := 57) (by decide +kernel) (by decide) rfl rfl rfl (fun h1 => ?_) (fun h1 => ?_)
    · skip
      exact k_57_0 A x1 hI (fun k n152 n153 => (hF k n152 n153)) (by omega)
    · skip
      refine pe_aload_n (j := 0) (by decide +kernel) rfl ?_
      refine pe_iload_n (j := 1) (by decide +kernel) rfl ?_
      refine pi_V (j := 190) (mj := 236) (by decide +kernel) (cll_V (args := [.int x1]) (n := 1) (by decide +kernel) rfl rfl (md_o hc) (by decide +kernel) (Nat.le_of_ble_eq_true rfl) (Nat.le_of_ble_eq_true rfl)) ?_
      show pmE pg X pg_tyl pg_cl (d + 2) 236 0 [.ref 147, .int x1] [] (md wc f A) _
      refine pe_aload_n (j := 0) (by decide +kernel) rfl ?_
      refine pe_get (j := 26) (ci := 12) (n := 13) (by decide +kernel) (by decide +kernel) (md_o hc) rfl ?_
      refine pe_bipushv (n := 10) (v := 10) (by decide +kernel) (by decide +kernel) ?_
      refine pe_iload_n (j := 1) (by decide +kernel) rfl ?_
      refine pz_mul (by decide +kernel) kz_10 rfl (by omega) (by omega) (fun z2 hz2 => ?_)
      refine pe_iconstv (n := 3) (v := 3) (by decide +kernel) (by decide +kernel) ?_
      refine pz_add (by decide +kernel) hz2 kz_3 (by omega) (by omega) (fun z3 hz3 => ?_)
      clear hz2
      refine mz_ld153 (by decide +kernel) hc hI hz3 (by omega) (by omega) (fun v4 ev4 pv4 => ?_)
      clear hz3
      refine pe_iconstv (n := 1) (v := 1) (by decide +kernel) (by decide +kernel) ?_
      have lw6 := zi_lo v4
      have uw6 := zi_hi v4
      refine pz_icmp_ne (off := 7) (t := 19) (by decide +kernel) (by decide) rfl rfl kz_1 (fun h5 => ?_) (fun h5 => ?_)
      · skip
        refine pe_iconstv (n := 0) (v := 0) (by decide +kernel) (by decide +kernel) ?_
        refine pe_iret (by decide +kernel) rfl rfl ⟨rfl, rfl, ?_⟩
        show pmE pg X pg_tyl pg_cl (d + 3) 240 25 [.ref 147, .int x1] [.int 0] (md wc f A) _
        refine pz_if_eq (off := 26) (t := 51) (by decide +kernel) (by decide) rfl kz_0 (fun h7 => ?_) (fun h7 => by omega)
        refine pz_iinc (j := 1) (n := 1) (by decide +kernel) rfl rfl (by decide +kernel) (by omega) (by omega) (fun z8 hz8 => ?_)
        show pmE pg X pg_tyl pg_cl (d + 3) 240 54 [.ref 147, .int z8] [] (md wc f A) _
        refine pe_goto (off := (-42)) (t := 12) (by decide +kernel) (by decide) rfl ?_
        exact ih A z8 hI (fun k n152 n153 => (hF k n152 n153)) (by omega) (by omega)
      · skip
        refine pe_iconstv (n := 1) (v := 1) (by decide +kernel) (by decide +kernel) ?_
        refine pe_goto (off := 4) (t := 20) (by decide +kernel) (by decide) rfl ?_
        refine pe_iret (by decide +kernel) rfl rfl ⟨rfl, rfl, ?_⟩
        show pmE pg X pg_tyl pg_cl (d + 3) 240 25 [.ref 147, .int x1] [.int 1] (md wc f A) _
        refine pz_if_eq (off := 26) (t := 51) (by decide +kernel) (by decide) rfl kz_1 (fun h9 => by omega) (fun h9 => ?_)
        refine pe_aload_n (j := 0) (by decide +kernel) rfl ?_
        refine pe_get (j := 26) (ci := 12) (n := 13) (by decide +kernel) (by decide +kernel) (md_o hc) rfl ?_
        refine pe_bipushv (n := 10) (v := 10) (by decide +kernel) (by decide +kernel) ?_
        refine pe_iload_n (j := 1) (by decide +kernel) rfl ?_
        refine pz_mul (by decide +kernel) kz_10 rfl (by omega) (by omega) (fun z10 hz10 => ?_)
        refine pe_iconstv (n := 2) (v := 2) (by decide +kernel) (by decide +kernel) ?_
        refine pz_add (by decide +kernel) hz10 kz_2 (by omega) (by omega) (fun z11 hz11 => ?_)
        clear hz10
        refine mz_ld153 (by decide +kernel) hc hI hz11 (by omega) (by omega) (fun v12 ev12 pv12 => ?_)
        clear hz11
        refine pe_aload_n (j := 0) (by decide +kernel) rfl ?_
        refine pe_get (j := 178) (ci := 12) (n := 15) (by decide +kernel) (by decide +kernel) (md_o hc) rfl ?_
        have lw14 := zi_lo v12
        have uw14 := zi_hi v12
        have lw15 := zi_lo (f 15)
        have uw15 := zi_hi (f 15)
        refine pz_icmp_ge (off := 8) (t := 51) (by decide +kernel) (by decide) rfl rfl rfl (fun h13 => ?_) (fun h13 => ?_)
        · skip
          refine pz_iinc (j := 1) (n := 1) (by decide +kernel) rfl rfl (by decide +kernel) (by omega) (by omega) (fun z16 hz16 => ?_)
          show pmE pg X pg_tyl pg_cl (d + 3) 240 54 [.ref 147, .int z16] [] (md wc f A) _
          refine pe_goto (off := (-42)) (t := 12) (by decide +kernel) (by decide) rfl ?_
          exact ih A z16 hI (fun k n152 n153 => (hF k n152 n153)) (by omega) (by omega)
        · skip
          refine pe_aload_n (j := 0) (by decide +kernel) rfl ?_
          refine pe_iload_n (j := 1) (by decide +kernel) rfl ?_
          refine pz_callV (j := 196) (mj := 237) (by decide +kernel) (cll_V (args := [.int x1]) (n := 1) (by decide +kernel) rfl rfl (md_o hc) (by decide +kernel) (Nat.le_of_ble_eq_true rfl) (Nat.le_of_ble_eq_true rfl)) (MM_237 hc hI (by omega)) (fun q17a q17b q17c q17d hqq17 => ?_)
          obtain ⟨A18, eq17, hIq17, hFq17, kq17⟩ := hqq17
          cases eq17
          refine ⟨rfl, rfl, ?_⟩
          show pmE pg X pg_tyl pg_cl (d + 3) 240 51 [.ref 147, .int x1] [] (md wc f A18) _
          refine pz_iinc (j := 1) (n := 1) (by decide +kernel) rfl rfl (by decide +kernel) (by omega) (by omega) (fun z19 hz19 => ?_)
          show pmE pg X pg_tyl pg_cl (d + 3) 240 54 [.ref 147, .int z19] [] (md wc f A18) _
          refine pe_goto (off := (-42)) (t := 12) (by decide +kernel) (by decide) rfl ?_
          exact ih A18 z19 hIq17 (fun k n152 n153 => ((hFq17 k n152 n153)).trans ((hF k n152 n153))) (by omega) (by omega)
set_option maxRecDepth 100000 in
set_option maxHeartbeats 8000000 in
theorem MM_240 {X : pm_X} {d : Nat} {wc : pm_W} {f : Nat → Int32} {A : Nat → List Int32} (hc : wc.length = 147) (hI : MI f A) : pmE pg X pg_tyl pg_cl (d + 3) 240 0 (pm_ent (pm_max pg 240) [.ref 147]) [] (md wc f A) (fun q => ∃ (f' : Nat → Int32) (A' : Nat → List Int32), q = (none, md wc f' A', 0, 0) ∧ MI f' A' ∧ (∀ k : Nat, k ≠ 15 → f' k = f k) ∧ (∀ k : Nat, k ≠ 152 → k ≠ 153 → A' k = A k) ∧ ((True))) := by
  show pmE pg X pg_tyl pg_cl (d + 3) 240 0 [.ref 147, pm_dead] [] (md wc f A) _
  refine pe_aload_n (j := 0) (by decide +kernel) rfl ?_
  refine pe_dup (by decide +kernel) rfl ?_
  refine pe_get (j := 178) (ci := 12) (n := 15) (by decide +kernel) (by decide +kernel) (md_o hc) rfl ?_
  refine pe_iconstv (n := 1) (v := 1) (by decide +kernel) (by decide +kernel) ?_
  refine pw_add (by decide +kernel) (fun z1 => ?_)
  refine mz_put15 (jj := 178) (by decide +kernel) (by decide +kernel) hc hI (fun f2 ef2 hIf2 => ?_)
  refine pe_iconstv (n := 0) (v := 0) (by decide +kernel) (by decide +kernel) ?_
  refine pe_istore_n (j := 1) (ls' := [.ref 147, .int 0]) (by decide +kernel) (Nat.le_of_ble_eq_true rfl) rfl ?_
  refine ML_240_12 hc (fun A3 y5 hIy4 hFhIy4 gy5 => ?_) 31 A 0 hIf2 (fun k _ _ => rfl) (by decide +kernel) (by decide +kernel)
  exact pe_vret (by decide +kernel) rfl ⟨f2, A3, rfl, hIy4, (fun k n15 => upf_fr ef2 n15), (fun k n152 n153 => (hFhIy4 k n152 n153)), trivial⟩
set_option maxRecDepth 100000 in
set_option maxHeartbeats 8000000 in
theorem ML_238_40 {X : pm_X} {d : Nat} {wc : pm_W} {Q : pm_R → Prop} {f : Nat → Int32} {A0 : Nat → List Int32} {x1 : Int32} (hc : wc.length = 147) (gx1 : (0 ≤ x1.toInt ∧ x1.toInt ≤ 8)) (k_76_0 : ∀ (A' : Nat → List Int32) (y2 : Int32), MI f A' → (∀ k : Nat, k ≠ 152 → A' k = A0 k) → (9 ≤ y2.toInt ∧ y2.toInt ≤ 9) → pmE pg X pg_tyl pg_cl (d + 3) 238 76 [.ref 147, .int x1, .int y2] [] (md wc f A') Q) : ∀ (m : Nat) (A : Nat → List Int32) (x2 : Int32), MI f A → (∀ k : Nat, k ≠ 152 → A k = A0 k) → (0 ≤ x2.toInt ∧ x2.toInt ≤ 9) → 9 - x2.toInt < (m : Int) → pmE pg X pg_tyl pg_cl (d + 3) 238 40 [.ref 147, .int x1, .int x2] [] (md wc f A) Q := by
  intro m
  induction m with
  | zero =>
    intro A x2 hI hF gx2 hm
    exfalso
    have l0 := zi_lo x2
    have u0 := zi_hi x2
    omega
  | succ m ih =>
    intro A x2 hI hF gx2 hm
    refine pe_iload_n (j := 2) (by decide +kernel) rfl ?_
    refine pe_bipushv (n := 9) (v := 9) (by decide +kernel) (by decide +kernel) ?_
    refine pz_icmp_ge (off := 33) (t := 76) (by decide +kernel) (by decide) rfl rfl kz_9 (fun h1 => ?_) (fun h1 => ?_)
    · skip
      exact k_76_0 A x2 hI (fun k n152 => (hF k n152)) (by omega)
    · skip
      refine pe_aload_n (j := 0) (by decide +kernel) rfl ?_
      refine pe_get (j := 23) (ci := 12) (n := 12) (by decide +kernel) (by decide +kernel) (md_o hc) rfl ?_
      refine pe_bipushv (n := 9) (v := 9) (by decide +kernel) (by decide +kernel) ?_
      refine pe_iload_n (j := 1) (by decide +kernel) rfl ?_
      refine pz_mul (by decide +kernel) kz_9 rfl (by omega) (by omega) (fun z2 hz2 => ?_)
      refine pe_iload_n (j := 2) (by decide +kernel) rfl ?_
      refine pz_add (by decide +kernel) hz2 rfl (by omega) (by omega) (fun z3 hz3 => ?_)
      clear hz2
      refine pe_iconstv (n := 0) (v := 0) (by decide +kernel) (by decide +kernel) ?_
      refine mz_st152 (by decide +kernel) hc hI hz3 (by omega) (by omega) (fun A4 eA4 hIA4 => ?_)
      refine pe_aload_n (j := 0) (by decide +kernel) rfl ?_
      refine pe_get (j := 23) (ci := 12) (n := 12) (by decide +kernel) (by decide +kernel) (md_o hc) rfl ?_
      refine pe_bipushv (n := 9) (v := 9) (by decide +kernel) (by decide +kernel) ?_
      refine pe_iload_n (j := 2) (by decide +kernel) rfl ?_
      refine pz_mul (by decide +kernel) kz_9 rfl (by omega) (by omega) (fun z5 hz5 => ?_)
      refine pe_iload_n (j := 1) (by decide +kernel) rfl ?_
      refine pz_add (by decide +kernel) hz5 rfl (by omega) (by omega) (fun z6 hz6 => ?_)
      clear hz5
      refine pe_iconstv (n := 0) (v := 0) (by decide +kernel) (by decide +kernel) ?_
      refine mz_st152 (by decide +kernel) hc hIA4 hz6 (by omega) (by omega) (fun A7 eA7 hIA7 => ?_)
      refine pz_iinc (j := 2) (n := 1) (by decide +kernel) rfl rfl (by decide +kernel) (by omega) (by omega) (fun z8 hz8 => ?_)
      show pmE pg X pg_tyl pg_cl (d + 3) 238 73 [.ref 147, .int x1, .int z8] [] (md wc f A7) _
      refine pe_goto (off := (-33)) (t := 40) (by decide +kernel) (by decide) rfl ?_
      exact ih A7 z8 hIA7 (fun k n152 => (upa_fr eA7 n152).trans ((upa_fr eA4 n152).trans ((hF k n152)))) (by omega) (by omega)
set_option maxRecDepth 100000 in
set_option maxHeartbeats 8000000 in
theorem ML_238_2 {X : pm_X} {d : Nat} {wc : pm_W} {Q : pm_R → Prop} {f : Nat → Int32} {A0 : Nat → List Int32} {x1 : Int32} (hc : wc.length = 147) (gx1 : (0 ≤ x1.toInt ∧ x1.toInt ≤ 8)) (k_38_0 : ∀ (A' : Nat → List Int32) (y2 : Int32), MI f A' → (∀ k : Nat, k ≠ 152 → k ≠ 153 → A' k = A0 k) → (0 ≤ y2.toInt ∧ y2.toInt ≤ 30) → pmE pg X pg_tyl pg_cl (d + 3) 238 38 [.ref 147, .int x1, .int y2] [] (md wc f A') Q) : ∀ (m : Nat) (A : Nat → List Int32) (x2 : Int32), MI f A → (∀ k : Nat, k ≠ 152 → k ≠ 153 → A k = A0 k) → (0 ≤ x2.toInt ∧ x2.toInt ≤ 30) → 30 - x2.toInt < (m : Int) → pmE pg X pg_tyl pg_cl (d + 3) 238 2 [.ref 147, .int x1, .int x2] [] (md wc f A) Q := by
  intro m
  induction m with
  | zero =>
    intro A x2 hI hF gx2 hm
    exfalso
    have l0 := zi_lo x2
    have u0 := zi_hi x2
    omega
  | succ m ih =>
    intro A x2 hI hF gx2 hm
    refine pe_iload_n (j := 2) (by decide +kernel) rfl ?_
    refine pe_aload_n (j := 0) (by decide +kernel) rfl ?_
    refine pe_get (j := 175) (ci := 12) (n := 14) (by decide +kernel) (by decide +kernel) (md_o hc) rfl ?_
    have hr_14_f := hI.1 14
    simp only [MF] at hr_14_f
    refine pz_icmp_ge (off := 31) (t := 38) (by decide +kernel) (by decide) rfl rfl rfl (fun h1 => ?_) (fun h1 => ?_)
    · skip
      exact k_38_0 A x2 hI (fun k n152 n153 => (hF k n152 n153)) (by omega)
    · skip
      refine pe_aload_n (j := 0) (by decide +kernel) rfl ?_
      refine pe_iload_n (j := 2) (by decide +kernel) rfl ?_
      refine pi_V (j := 190) (mj := 236) (by decide +kernel) (cll_V (args := [.int x2]) (n := 1) (by decide +kernel) rfl rfl (md_o hc) (by decide +kernel) (Nat.le_of_ble_eq_true rfl) (Nat.le_of_ble_eq_true rfl)) ?_
      show pmE pg X pg_tyl pg_cl (d + 2) 236 0 [.ref 147, .int x2] [] (md wc f A) _
      refine pe_aload_n (j := 0) (by decide +kernel) rfl ?_
      refine pe_get (j := 26) (ci := 12) (n := 13) (by decide +kernel) (by decide +kernel) (md_o hc) rfl ?_
      refine pe_bipushv (n := 10) (v := 10) (by decide +kernel) (by decide +kernel) ?_
      refine pe_iload_n (j := 1) (by decide +kernel) rfl ?_
      refine pz_mul (by decide +kernel) kz_10 rfl (by omega) (by omega) (fun z2 hz2 => ?_)
      refine pe_iconstv (n := 3) (v := 3) (by decide +kernel) (by decide +kernel) ?_
      refine pz_add (by decide +kernel) hz2 kz_3 (by omega) (by omega) (fun z3 hz3 => ?_)
      clear hz2
      refine mz_ld153 (by decide +kernel) hc hI hz3 (by omega) (by omega) (fun v4 ev4 pv4 => ?_)
      clear hz3
      refine pe_iconstv (n := 1) (v := 1) (by decide +kernel) (by decide +kernel) ?_
      have lw6 := zi_lo v4
      have uw6 := zi_hi v4
      refine pz_icmp_ne (off := 7) (t := 19) (by decide +kernel) (by decide) rfl rfl kz_1 (fun h5 => ?_) (fun h5 => ?_)
      · skip
        refine pe_iconstv (n := 0) (v := 0) (by decide +kernel) (by decide +kernel) ?_
        refine pe_iret (by decide +kernel) rfl rfl ⟨rfl, rfl, ?_⟩
        show pmE pg X pg_tyl pg_cl (d + 3) 238 15 [.ref 147, .int x1, .int x2] [.int 0] (md wc f A) _
        refine pz_if_eq (off := 17) (t := 32) (by decide +kernel) (by decide) rfl kz_0 (fun h7 => ?_) (fun h7 => by omega)
        refine pz_iinc (j := 2) (n := 1) (by decide +kernel) rfl rfl (by decide +kernel) (by omega) (by omega) (fun z8 hz8 => ?_)
        show pmE pg X pg_tyl pg_cl (d + 3) 238 35 [.ref 147, .int x1, .int z8] [] (md wc f A) _
        refine pe_goto (off := (-33)) (t := 2) (by decide +kernel) (by decide) rfl ?_
        exact ih A z8 hI (fun k n152 n153 => (hF k n152 n153)) (by omega) (by omega)
      · skip
        refine pe_iconstv (n := 1) (v := 1) (by decide +kernel) (by decide +kernel) ?_
        refine pe_goto (off := 4) (t := 20) (by decide +kernel) (by decide) rfl ?_
        refine pe_iret (by decide +kernel) rfl rfl ⟨rfl, rfl, ?_⟩
        show pmE pg X pg_tyl pg_cl (d + 3) 238 15 [.ref 147, .int x1, .int x2] [.int 1] (md wc f A) _
        refine pz_if_eq (off := 17) (t := 32) (by decide +kernel) (by decide) rfl kz_1 (fun h9 => by omega) (fun h9 => ?_)
        refine pe_aload_n (j := 0) (by decide +kernel) rfl ?_
        refine pe_iload_n (j := 2) (by decide +kernel) rfl ?_
        refine pe_iload_n (j := 1) (by decide +kernel) rfl ?_
        refine pz_callV (j := 193) (mj := 239) (by decide +kernel) (cll_V (args := [.int x1, .int x2]) (n := 2) (by decide +kernel) rfl rfl (md_o hc) (by decide +kernel) (Nat.le_of_ble_eq_true rfl) (Nat.le_of_ble_eq_true rfl)) (MM_239 hc hI (by omega)) (fun q10a q10b q10c q10d hqq10 => ?_)
        obtain ⟨rq10, eq10, kq10⟩ := hqq10
        cases eq10
        refine ⟨rfl, rfl, ?_⟩
        show pmE pg X pg_tyl pg_cl (d + 3) 238 24 [.ref 147, .int x1, .int x2] [.int rq10] (md wc f A) _
        refine pz_if_eq (off := 8) (t := 32) (by decide +kernel) (by decide) rfl rfl (fun h11 => ?_) (fun h11 => ?_)
        · skip
          refine pz_iinc (j := 2) (n := 1) (by decide +kernel) rfl rfl (by decide +kernel) (by omega) (by omega) (fun z12 hz12 => ?_)
          show pmE pg X pg_tyl pg_cl (d + 3) 238 35 [.ref 147, .int x1, .int z12] [] (md wc f A) _
          refine pe_goto (off := (-33)) (t := 2) (by decide +kernel) (by decide) rfl ?_
          exact ih A z12 hI (fun k n152 n153 => (hF k n152 n153)) (by omega) (by omega)
        · skip
          refine pe_aload_n (j := 0) (by decide +kernel) rfl ?_
          refine pe_iload_n (j := 2) (by decide +kernel) rfl ?_
          refine pz_callV (j := 196) (mj := 237) (by decide +kernel) (cll_V (args := [.int x2]) (n := 1) (by decide +kernel) rfl rfl (md_o hc) (by decide +kernel) (Nat.le_of_ble_eq_true rfl) (Nat.le_of_ble_eq_true rfl)) (MM_237 hc hI (by omega)) (fun q13a q13b q13c q13d hqq13 => ?_)
          obtain ⟨A14, eq13, hIq13, hFq13, kq13⟩ := hqq13
          cases eq13
          refine ⟨rfl, rfl, ?_⟩
          show pmE pg X pg_tyl pg_cl (d + 3) 238 32 [.ref 147, .int x1, .int x2] [] (md wc f A14) _
          refine pz_iinc (j := 2) (n := 1) (by decide +kernel) rfl rfl (by decide +kernel) (by omega) (by omega) (fun z15 hz15 => ?_)
          show pmE pg X pg_tyl pg_cl (d + 3) 238 35 [.ref 147, .int x1, .int z15] [] (md wc f A14) _
          refine pe_goto (off := (-33)) (t := 2) (by decide +kernel) (by decide) rfl ?_
          exact ih A14 z15 hIq13 (fun k n152 n153 => ((hFq13 k n152 n153)).trans ((hF k n152 n153))) (by omega) (by omega)
set_option maxRecDepth 100000 in
set_option maxHeartbeats 8000000 in
theorem MM_238 {X : pm_X} {d : Nat} {wc : pm_W} {f : Nat → Int32} {A : Nat → List Int32} {x1 : Int32} (hc : wc.length = 147) (hI : MI f A) (gx1 : (0 ≤ x1.toInt ∧ x1.toInt ≤ 8)) : pmE pg X pg_tyl pg_cl (d + 3) 238 0 (pm_ent (pm_max pg 238) [.ref 147, .int x1]) [] (md wc f A) (fun q => ∃ (A' : Nat → List Int32), q = (none, md wc f A', 0, 0) ∧ MI f A' ∧ (∀ k : Nat, k ≠ 152 → k ≠ 153 → A' k = A k) ∧ ((True))) := by
  show pmE pg X pg_tyl pg_cl (d + 3) 238 0 [.ref 147, .int x1, pm_dead] [] (md wc f A) _
  refine pe_iconstv (n := 0) (v := 0) (by decide +kernel) (by decide +kernel) ?_
  refine pe_istore_n (j := 2) (ls' := [.ref 147, .int x1, .int 0]) (by decide +kernel) (Nat.le_of_ble_eq_true rfl) rfl ?_
  refine ML_238_2 hc (by omega) (fun A1 y3 hIy2 hFhIy2 gy3 => ?_) 31 A 0 hI (fun k _ _ => rfl) (by decide +kernel) (by decide +kernel)
  refine pe_iconstv (n := 0) (v := 0) (by decide +kernel) (by decide +kernel) ?_
  refine pe_istore_n (j := 2) (ls' := [.ref 147, .int x1, .int 0]) (by decide +kernel) (Nat.le_of_ble_eq_true rfl) rfl ?_
  refine ML_238_40 hc (by omega) (fun A4 y6 hIy5 hFhIy5 gy6 => ?_) 10 A1 0 hIy2 (fun k _ => rfl) (by decide +kernel) (by decide +kernel)
  exact pe_vret (by decide +kernel) rfl ⟨A4, rfl, hIy5, (fun k n152 n153 => ((hFhIy5 k n152)).trans ((hFhIy2 k n152 n153))), trivial⟩
set_option maxRecDepth 100000 in
set_option maxHeartbeats 8000000 in
theorem ML_299_4 {X : pm_X} {d : Nat} {wc : pm_W} {Q : pm_R → Prop} {f : Nat → Int32} {A : Nat → List Int32} {x1 : Int32} (hc : wc.length = 147) (hI : MI f A) (k_45_0 : ∀ (y2 : Int32) (y3 : Int32), (0 ≤ y3.toInt ∧ y3.toInt ≤ 30) → pmE pg X pg_tyl pg_cl (d + 2) 299 45 [.ref 147, .int x1, .int y2, .int y3] [] (md wc f A) Q) : ∀ (m : Nat) (x2 : Int32) (x3 : Int32), (0 ≤ x3.toInt ∧ x3.toInt ≤ 30) → 30 - x3.toInt < (m : Int) → pmE pg X pg_tyl pg_cl (d + 2) 299 4 [.ref 147, .int x1, .int x2, .int x3] [] (md wc f A) Q := by
  intro m
  induction m with
  | zero =>
    intro x2 x3 gx3 hm
    exfalso
    have l0 := zi_lo x3
    have u0 := zi_hi x3
    omega
  | succ m ih =>
    intro x2 x3 gx3 hm
    refine pe_iload_n (j := 3) (by decide +kernel) rfl ?_
    refine pe_aload_n (j := 0) (by decide +kernel) rfl ?_
    refine pe_get (j := 175) (ci := 12) (n := 14) (by decide +kernel) (by decide +kernel) (md_o hc) rfl ?_
    have hr_14_f := hI.1 14
    simp only [MF] at hr_14_f
    refine pz_icmp_ge (off := 36) (t := 45) (by decide +kernel) (by decide) rfl rfl rfl (fun h1 => ?_) (fun h1 => ?_)
    · skip
      exact k_45_0 x2 x3 (by omega)
    · skip
      refine pe_iload_n (j := 2) (by decide +kernel) rfl ?_
      refine pe_aload_n (j := 0) (by decide +kernel) rfl ?_
      refine pe_iload_n (j := 3) (by decide +kernel) rfl ?_
      refine pi_V (j := 190) (mj := 236) (by decide +kernel) (cll_V (args := [.int x3]) (n := 1) (by decide +kernel) rfl rfl (md_o hc) (by decide +kernel) (Nat.le_of_ble_eq_true rfl) (Nat.le_of_ble_eq_true rfl)) ?_
      show pmE pg X pg_tyl pg_cl (d + 1) 236 0 [.ref 147, .int x3] [] (md wc f A) _
      refine pe_aload_n (j := 0) (by decide +kernel) rfl ?_
      refine pe_get (j := 26) (ci := 12) (n := 13) (by decide +kernel) (by decide +kernel) (md_o hc) rfl ?_
      refine pe_bipushv (n := 10) (v := 10) (by decide +kernel) (by decide +kernel) ?_
      refine pe_iload_n (j := 1) (by decide +kernel) rfl ?_
      refine pz_mul (by decide +kernel) kz_10 rfl (by omega) (by omega) (fun z2 hz2 => ?_)
      refine pe_iconstv (n := 3) (v := 3) (by decide +kernel) (by decide +kernel) ?_
      refine pz_add (by decide +kernel) hz2 kz_3 (by omega) (by omega) (fun z3 hz3 => ?_)
      clear hz2
      refine mz_ld153 (by decide +kernel) hc hI hz3 (by omega) (by omega) (fun v4 ev4 pv4 => ?_)
      clear hz3
      refine pe_iconstv (n := 1) (v := 1) (by decide +kernel) (by decide +kernel) ?_
      have lw6 := zi_lo v4
      have uw6 := zi_hi v4
      refine pz_icmp_ne (off := 7) (t := 19) (by decide +kernel) (by decide) rfl rfl kz_1 (fun h5 => ?_) (fun h5 => ?_)
      · skip
        refine pe_iconstv (n := 0) (v := 0) (by decide +kernel) (by decide +kernel) ?_
        refine pe_iret (by decide +kernel) rfl rfl ⟨rfl, rfl, ?_⟩
        show pmE pg X pg_tyl pg_cl (d + 2) 299 18 [.ref 147, .int x1, .int x2, .int x3] [.int 0, .int x2] (md wc f A) _
        refine pz_if_eq (off := 18) (t := 36) (by decide +kernel) (by decide) rfl kz_0 (fun h7 => ?_) (fun h7 => by omega)
        refine pe_iconstv (n := 0) (v := 0) (by decide +kernel) (by decide +kernel) ?_
        refine pw_or (by decide +kernel) (fun z8 => ?_)
        refine pe_istore_n (j := 2) (ls' := [.ref 147, .int x1, .int z8, .int x3]) (by decide +kernel) (Nat.le_of_ble_eq_true rfl) rfl ?_
        refine pz_iinc (j := 3) (n := 1) (by decide +kernel) rfl rfl (by decide +kernel) (by omega) (by omega) (fun z9 hz9 => ?_)
        show pmE pg X pg_tyl pg_cl (d + 2) 299 42 [.ref 147, .int x1, .int z8, .int z9] [] (md wc f A) _
        refine pe_goto (off := (-38)) (t := 4) (by decide +kernel) (by decide) rfl ?_
        exact ih z8 z9 (by omega) (by omega)
      · skip
        refine pe_iconstv (n := 1) (v := 1) (by decide +kernel) (by decide +kernel) ?_
        refine pe_goto (off := 4) (t := 20) (by decide +kernel) (by decide) rfl ?_
        refine pe_iret (by decide +kernel) rfl rfl ⟨rfl, rfl, ?_⟩
        show pmE pg X pg_tyl pg_cl (d + 2) 299 18 [.ref 147, .int x1, .int x2, .int x3] [.int 1, .int x2] (md wc f A) _
        refine pz_if_eq (off := 18) (t := 36) (by decide +kernel) (by decide) rfl kz_1 (fun h10 => by omega) (fun h10 => ?_)
        refine pe_aload_n (j := 0) (by decide +kernel) rfl ?_
        refine pe_iload_n (j := 3) (by decide +kernel) rfl ?_
        refine pe_iload_n (j := 1) (by decide +kernel) rfl ?_
        refine pz_callV (j := 193) (mj := 239) (by decide +kernel) (cll_V (args := [.int x1, .int x3]) (n := 2) (by decide +kernel) rfl rfl (md_o hc) (by decide +kernel) (Nat.le_of_ble_eq_true rfl) (Nat.le_of_ble_eq_true rfl)) (MM_239 hc hI (by omega)) (fun q11a q11b q11c q11d hqq11 => ?_)
        obtain ⟨rq11, eq11, kq11⟩ := hqq11
        cases eq11
        refine ⟨rfl, rfl, ?_⟩
        show pmE pg X pg_tyl pg_cl (d + 2) 299 27 [.ref 147, .int x1, .int x2, .int x3] [.int rq11, .int x2] (md wc f A) _
        refine pz_if_eq (off := 9) (t := 36) (by decide +kernel) (by decide) rfl rfl (fun h12 => ?_) (fun h12 => ?_)
        · skip
          refine pe_iconstv (n := 0) (v := 0) (by decide +kernel) (by decide +kernel) ?_
          refine pw_or (by decide +kernel) (fun z13 => ?_)
          refine pe_istore_n (j := 2) (ls' := [.ref 147, .int x1, .int z13, .int x3]) (by decide +kernel) (Nat.le_of_ble_eq_true rfl) rfl ?_
          refine pz_iinc (j := 3) (n := 1) (by decide +kernel) rfl rfl (by decide +kernel) (by omega) (by omega) (fun z14 hz14 => ?_)
          show pmE pg X pg_tyl pg_cl (d + 2) 299 42 [.ref 147, .int x1, .int z13, .int z14] [] (md wc f A) _
          refine pe_goto (off := (-38)) (t := 4) (by decide +kernel) (by decide) rfl ?_
          exact ih z13 z14 (by omega) (by omega)
        · skip
          refine pe_iconstv (n := 1) (v := 1) (by decide +kernel) (by decide +kernel) ?_
          refine pe_iload_n (j := 3) (by decide +kernel) rfl ?_
          refine pw_shl (by decide +kernel) (fun z15 => ?_)
          refine pe_goto (off := 4) (t := 37) (by decide +kernel) (by decide) rfl ?_
          refine pw_or (by decide +kernel) (fun z16 => ?_)
          refine pe_istore_n (j := 2) (ls' := [.ref 147, .int x1, .int z16, .int x3]) (by decide +kernel) (Nat.le_of_ble_eq_true rfl) rfl ?_
          refine pz_iinc (j := 3) (n := 1) (by decide +kernel) rfl rfl (by decide +kernel) (by omega) (by omega) (fun z17 hz17 => ?_)
          show pmE pg X pg_tyl pg_cl (d + 2) 299 42 [.ref 147, .int x1, .int z16, .int z17] [] (md wc f A) _
          refine pe_goto (off := (-38)) (t := 4) (by decide +kernel) (by decide) rfl ?_
          exact ih z16 z17 (by omega) (by omega)
set_option maxRecDepth 100000 in
set_option maxHeartbeats 8000000 in
theorem MM_299 {X : pm_X} {d : Nat} {wc : pm_W} {f : Nat → Int32} {A : Nat → List Int32} {x1 : Int32} (hc : wc.length = 147) (hI : MI f A) : pmE pg X pg_tyl pg_cl (d + 2) 299 0 (pm_ent (pm_max pg 299) [.ref 147, .int x1]) [] (md wc f A) (fun q => ∃ (r : Int32), q = (some (.int r), md wc f A, 0, 0) ∧ ((True ∧ True))) := by
  show pmE pg X pg_tyl pg_cl (d + 2) 299 0 [.ref 147, .int x1, pm_dead, pm_dead] [] (md wc f A) _
  refine pe_iconstv (n := 0) (v := 0) (by decide +kernel) (by decide +kernel) ?_
  refine pe_istore_n (j := 2) (ls' := [.ref 147, .int x1, .int 0, pm_dead]) (by decide +kernel) (Nat.le_of_ble_eq_true rfl) rfl ?_
  refine pe_iconstv (n := 0) (v := 0) (by decide +kernel) (by decide +kernel) ?_
  refine pe_istore_n (j := 3) (ls' := [.ref 147, .int x1, .int 0, .int 0]) (by decide +kernel) (Nat.le_of_ble_eq_true rfl) rfl ?_
  refine ML_299_4 hc hI (fun y1 y2 gy2 => ?_) 31 0 0 (by decide +kernel) (by decide +kernel)
  refine pe_iload_n (j := 2) (by decide +kernel) rfl ?_
  exact pe_iret (by decide +kernel) rfl rfl ⟨y1, rfl, ⟨trivial, trivial⟩⟩
