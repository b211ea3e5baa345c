set_option maxHeartbeats 8000000 in
theorem ML_237_2 {X : pm_X} {d : Nat} {wc : pm_W} {Q : pm_R → Prop} {f : Nat → Int32} {x1 : Int32} (hc : wc.length = 147) (gx1 : (0 ≤ x1.toInt ∧ x1.toInt ≤ 30)) (k_86 : ∀ (A' : Nat → List Int32) (y2 : Int32) (v3 : Value), MI f A' → (0 ≤ y2.toInt ∧ y2.toInt ≤ 6) → pmE pg X pg_tyl pg_cl (d + 2) 237 86 [.ref 147, .int x1, .int y2, v3] [] (md wc f A') Q) : ∀ (m : Nat) (A : Nat → List Int32) (x2 : Int32) (u3 : Value), MI f A → (0 ≤ x2.toInt ∧ x2.toInt ≤ 6) → 6 - x2.toInt < (m : Int) → pmE pg X pg_tyl pg_cl (d + 2) 237 2 [.ref 147, .int x1, .int x2, u3] [] (md wc f A) Q := by
  intro m
  induction m with
  | zero =>
    intro A x2 u3 hI gx2 hm
    exfalso
    omega
  | succ m ih =>
    intro A x2 u3 hI gx2 hm
    refine pe_iload_n (j := 2) (by decide +kernel) rfl ?_
    refine pe_aload_n (j := 0) (by decide +kernel) rfl ?_
    refine pe_get (j := 26) (ci := 12) (n := 13) (by decide +kernel) (by decide +kernel) (md_o hc) rfl ?_
    refine pe_bipushv (n := 10) (v := 10) (by decide +kernel) (by decide +kernel) ?_
    refine pe_iload_n (j := 1) (by decide +kernel) rfl ?_
    refine pz_mul (by decide +kernel) kz_10 rfl (by omega) (by omega) (fun z1 hz1 => ?_)
    refine mz_ld153 (by decide +kernel) hc hI hz1 (by omega) (by omega) (fun v2 ev2 pv2 => ?_)
    have rv2 : 0 ≤ v2.toInt ∧ v2.toInt ≤ 6 := by have p := pv2; simp only [MP_rings] at p; omega
    refine pz_icmp_ge (off := 74) (t := 86) (by decide +kernel) (by decide) rfl rfl rfl (fun h3 => ?_) (fun h3 => ?_)
    · skip
      exact k_86 A x2 (u3) hI (by omega)
    · skip
      refine pe_bipushv (n := 9) (v := 9) (by decide +kernel) (by decide +kernel) ?_
      refine pe_aload_n (j := 0) (by decide +kernel) rfl ?_
      refine pe_iload_n (j := 1) (by decide +kernel) rfl ?_
      refine pe_iload_n (j := 2) (by decide +kernel) rfl ?_
      refine pi_V (j := 184) (mj := 234) (by decide +kernel) (cll_V (args := [.int x2, .int x1]) (n := 2) (by decide +kernel) rfl rfl (md_o hc) (by decide +kernel) (Nat.le_of_ble_eq_true rfl) (Nat.le_of_ble_eq_true rfl)) ?_
      show pmE pg X pg_tyl pg_cl (d + 1) 234 0 [.ref 147, .int x1, .int x2] [] (md wc f A) _
      refine pe_aload_n (j := 0) (by decide +kernel) rfl ?_
      refine pe_get (j := 26) (ci := 12) (n := 13) (by decide +kernel) (by decide +kernel) (md_o hc) rfl ?_
      refine pe_bipushv (n := 10) (v := 10) (by decide +kernel) (by decide +kernel) ?_
      refine pe_iload_n (j := 1) (by decide +kernel) rfl ?_
      refine pz_mul (by decide +kernel) kz_10 rfl (by omega) (by omega) (fun z4 hz4 => ?_)
      refine pe_iconstv (n := 4) (v := 4) (by decide +kernel) (by decide +kernel) ?_
      refine pz_add (by decide +kernel) hz4 kz_4 (by omega) (by omega) (fun z5 hz5 => ?_)
      refine pe_iload_n (j := 2) (by decide +kernel) rfl ?_
      refine pz_add (by decide +kernel) hz5 rfl (by omega) (by omega) (fun z6 hz6 => ?_)
      refine mz_ld153 (by decide +kernel) hc hI hz6 (by omega) (by omega) (fun v7 ev7 pv7 => ?_)
      have rv7 : 0 ≤ v7.toInt ∧ v7.toInt ≤ 8 := by have p := pv7; simp only [MP_rings] at p; omega
      refine pe_iret (by decide +kernel) rfl rfl ⟨rfl, rfl, ?_⟩
      show pmE pg X pg_tyl pg_cl (d + 2) 237 23 [.ref 147, .int x1, .int x2, u3] [.int v7, .int 9] (md wc f A) _
      refine pz_mul (by decide +kernel) kz_9 rfl (by omega) (by omega) (fun z8 hz8 => ?_)
      refine pe_aload_n (j := 0) (by decide +kernel) rfl ?_
      refine pe_iload_n (j := 1) (by decide +kernel) rfl ?_
      refine pe_iload_n (j := 2) (by decide +kernel) rfl ?_
      refine pz_callV (j := 187) (mj := 235) (by decide +kernel) (cll_V (args := [.int x2, .int x1]) (n := 2) (by decide +kernel) rfl rfl (md_o hc) (by decide +kernel) (Nat.le_of_ble_eq_true rfl) (Nat.le_of_ble_eq_true rfl)) (MM_235 hc hI (by omega) (by omega)) (fun q9a q9b q9c q9d hqq9 => ?_)
      obtain ⟨rq9, eq9, kq9⟩ := hqq9
      cases eq9
      refine ⟨rfl, rfl, ?_⟩
      show pmE pg X pg_tyl pg_cl (d + 2) 237 30 [.ref 147, .int x1, .int x2, u3] [.int rq9, .int z8] (md wc f A) _
      refine pz_add (by decide +kernel) hz8 rfl (by omega) (by omega) (fun z10 hz10 => ?_)
      refine pe_istore_n (j := 3) (ls' := [.ref 147, .int x1, .int x2, .int z10]) (by decide +kernel) (Nat.le_of_ble_eq_true rfl) rfl ?_
      refine pe_aload_n (j := 0) (by decide +kernel) rfl ?_
      refine pe_get (j := 23) (ci := 12) (n := 12) (by decide +kernel) (by decide +kernel) (md_o hc) rfl ?_
      refine pe_iload_n (j := 3) (by decide +kernel) rfl ?_
      refine pe_aload_n (j := 0) (by decide +kernel) rfl ?_
      refine pe_get (j := 23) (ci := 12) (n := 12) (by decide +kernel) (by decide +kernel) (md_o hc) rfl ?_
      refine pe_iload_n (j := 3) (by decide +kernel) rfl ?_
      refine mz_ld152 (by decide +kernel) hc hI hz10 (by omega) (by omega) (fun v11 ev11 => ?_)
      refine pe_aload_n (j := 0) (by decide +kernel) rfl ?_
      refine pe_get (j := 26) (ci := 12) (n := 13) (by decide +kernel) (by decide +kernel) (md_o hc) rfl ?_
      refine pe_bipushv (n := 10) (v := 10) (by decide +kernel) (by decide +kernel) ?_
      refine pe_iload_n (j := 1) (by decide +kernel) rfl ?_
      refine pz_mul (by decide +kernel) kz_10 rfl (by omega) (by omega) (fun z12 hz12 => ?_)
      refine pe_iconstv (n := 1) (v := 1) (by decide +kernel) (by decide +kernel) ?_
      refine pz_add (by decide +kernel) hz12 kz_1 (by omega) (by omega) (fun z13 hz13 => ?_)
      refine mz_ld153 (by decide +kernel) hc hI hz13 (by omega) (by omega) (fun v14 ev14 pv14 => ?_)
      refine pz_icmp_ge (off := 7) (t := 61) (by decide +kernel) (by decide) rfl rfl rfl (fun h15 => ?_) (fun h15 => ?_)
      · skip
        refine pe_aload_n (j := 0) (by decide +kernel) rfl ?_
        refine pe_get (j := 23) (ci := 12) (n := 12) (by decide +kernel) (by decide +kernel) (md_o hc) rfl ?_
        refine pe_iload_n (j := 3) (by decide +kernel) rfl ?_
        refine mz_ld152 (by decide +kernel) hc hI hz10 (by omega) (by omega) (fun v16 ev16 => ?_)
        rw [ev16.trans ev11.symm]
        clear ev16 v16
        refine pe_aload_n (j := 0) (by decide +kernel) rfl ?_
        refine pe_get (j := 26) (ci := 12) (n := 13) (by decide +kernel) (by decide +kernel) (md_o hc) rfl ?_
        refine pe_bipushv (n := 10) (v := 10) (by decide +kernel) (by decide +kernel) ?_
        refine pe_iload_n (j := 1) (by decide +kernel) rfl ?_
        refine pz_mul (by decide +kernel) kz_10 rfl (by omega) (by omega) (fun z17 hz17 => ?_)
        refine pe_iconstv (n := 1) (v := 1) (by decide +kernel) (by decide +kernel) ?_
        refine pz_add (by decide +kernel) hz17 kz_1 (by omega) (by omega) (fun z18 hz18 => ?_)
        refine mz_ld153 (by decide +kernel) hc hI hz18 (by omega) (by omega) (fun v19 ev19 pv19 => ?_)
        rw [ev19.trans ev14.symm]
        clear pv19 ev19 v19
        refine pw_sub (by decide +kernel) (fun z20 => ?_)
        refine mz_st152 (by decide +kernel) hc hI hz10 (by omega) (by omega) (fun A21 eA21 hIA21 => ?_)
        refine pz_iinc (j := 2) (n := 1) (by decide +kernel) rfl rfl (by decide +kernel) (by omega) (by omega) (fun z22 hz22 => ?_)
        show pmE pg X pg_tyl pg_cl (d + 2) 237 83 [.ref 147, .int x1, .int z22, .int z10] [] (md wc f A21) _
        refine pe_goto (off := (-81)) (t := 2) (by decide +kernel) (by decide) rfl ?_
        exact ih A21 z22 (.int z10) hIA21 (by omega) (by omega)
      · skip
        refine pe_iconstv (n := 0) (v := 0) (by decide +kernel) (by decide +kernel) ?_
        refine pe_goto (off := 21) (t := 79) (by decide +kernel) (by decide) rfl ?_
        refine mz_st152 (by decide +kernel) hc hI hz10 (by omega) (by omega) (fun A23 eA23 hIA23 => ?_)
        refine pz_iinc (j := 2) (n := 1) (by decide +kernel) rfl rfl (by decide +kernel) (by omega) (by omega) (fun z24 hz24 => ?_)
        show pmE pg X pg_tyl pg_cl (d + 2) 237 83 [.ref 147, .int x1, .int z24, .int z10] [] (md wc f A23) _
        refine pe_goto (off := (-81)) (t := 2) (by decide +kernel) (by decide) rfl ?_
        exact ih A23 z24 (.int z10) hIA23 (by omega) (by omega)
set_option maxHeartbeats 8000000 in
theorem MM_237 {X : pm_X} {d : Nat} {wc : pm_W} {f : Nat → Int32} {A : Nat → List Int32} {x1 : Int32} (hc : wc.length = 147) (hI : MI f A) (gx1 : (0 ≤ x1.toInt ∧ x1.toInt ≤ 30)) : pmE pg X pg_tyl pg_cl (d + 2) 237 0 (pm_ent (pm_max pg 237) [.ref 147, .int x1]) [] (md wc f A) (fun q => ∃ (A' : Nat → List Int32), q = (none, md wc f A', 0, 0) ∧ MI f A' ∧ ((True))) := by
  show pmE pg X pg_tyl pg_cl (d + 2) 237 0 [.ref 147, .int x1, pm_dead, pm_dead] [] (md wc f A) _
  refine pe_iconstv (n := 0) (v := 0) (by decide +kernel) (by decide +kernel) ?_
  refine pe_istore_n (j := 2) (ls' := [.ref 147, .int x1, .int 0, pm_dead]) (by decide +kernel) (Nat.le_of_ble_eq_true rfl) rfl ?_
  refine ML_237_2 hc (by omega) (fun A1 y3 u4 hIy2 gy3 => ?_) 7 A 0 (pm_dead) hI (by decide +kernel) (by decide +kernel)
  refine pe_aload_n (j := 0) (by decide +kernel) rfl ?_
  refine pe_get (j := 26) (ci := 12) (n := 13) (by decide +kernel) (by decide +kernel) (md_o hc) rfl ?_
  refine pe_bipushv (n := 10) (v := 10) (by decide +kernel) (by decide +kernel) ?_
  refine pe_iload_n (j := 1) (by decide +kernel) rfl ?_
  refine pz_mul (by decide +kernel) kz_10 rfl (by omega) (by omega) (fun z5 hz5 => ?_)
  refine pe_iconstv (n := 3) (v := 3) (by decide +kernel) (by decide +kernel) ?_
  refine pz_add (by decide +kernel) hz5 kz_3 (by omega) (by omega) (fun z6 hz6 => ?_)
  refine pe_iconstv (n := 0) (v := 0) (by decide +kernel) (by decide +kernel) ?_
  refine mz_st153 (by decide +kernel) hc hIy2 hz6 (by omega) (by omega) (by rw [kz_0]; simp only [MP_rings]; omega) (fun A7 eA7 hIA7 => ?_)
  exact pe_vret (by decide +kernel) rfl ⟨A7, rfl, hIA7, trivial⟩
set_option maxHeartbeats 8000000 in
theorem ML_240_12 {X : pm_X} {d : Nat} {wc : pm_W} {Q : pm_R → Prop} {f : Nat → Int32} (hc : wc.length = 147) (k_57 : ∀ (A' : Nat → List Int32) (y1 : Int32), MI f A' → (0 ≤ y1.toInt ∧ y1.toInt ≤ 30) → pmE pg X pg_tyl pg_cl (d + 3) 240 57 [.ref 147, .int y1] [] (md wc f A') Q) : ∀ (m : Nat) (A : Nat → List Int32) (x1 : Int32), MI f A → (0 ≤ x1.toInt ∧ x1.toInt ≤ 30) → 30 - x1.toInt < (m : Int) → pmE pg X pg_tyl pg_cl (d + 3) 240 12 [.ref 147, .int x1] [] (md wc f A) Q := by
  intro m
  induction m with
  | zero =>
    intro A x1 hI gx1 hm
    exfalso
    omega
  | succ m ih =>
    intro A x1 hI gx1 hm
    refine pe_iload_n (j := 1) (by decide +kernel) rfl ?_
    refine pe_aload_n (j := 0) (by decide +kernel) rfl ?_
    refine pe_get (j := 175) (ci := 12) (n := 14) (by decide +kernel) (by decide +kernel) (md_o hc) rfl ?_
    have hr_14_f := hI.1 14
    simp only [MF] at hr_14_f
    refine pz_icmp_ge (off := 40) (t := 57) (by decide +kernel) (by decide) rfl rfl rfl (fun h1 => ?_) (fun h1 => ?_)
    · skip
      exact k_57 A x1 hI (by omega)
    · skip
      refine pe_aload_n (j := 0) (by decide +kernel) rfl ?_
      refine pe_iload_n (j := 1) (by decide +kernel) rfl ?_
      refine pi_V (j := 190) (mj := 236) (by decide +kernel) (cll_V (args := [.int x1]) (n := 1) (by decide +kernel) rfl rfl (md_o hc) (by decide +kernel) (Nat.le_of_ble_eq_true rfl) (Nat.le_of_ble_eq_true rfl)) ?_
      show pmE pg X pg_tyl pg_cl (d + 2) 236 0 [.ref 147, .int x1] [] (md wc f A) _
      refine pe_aload_n (j := 0) (by decide +kernel) rfl ?_
      refine pe_get (j := 26) (ci := 12) (n := 13) (by decide +kernel) (by decide +kernel) (md_o hc) rfl ?_
      refine pe_bipushv (n := 10) (v := 10) (by decide +kernel) (by decide +kernel) ?_
      refine pe_iload_n (j := 1) (by decide +kernel) rfl ?_
      refine pz_mul (by decide +kernel) kz_10 rfl (by omega) (by omega) (fun z2 hz2 => ?_)
      refine pe_iconstv (n := 3) (v := 3) (by decide +kernel) (by decide +kernel) ?_
      refine pz_add (by decide +kernel) hz2 kz_3 (by omega) (by omega) (fun z3 hz3 => ?_)
      refine mz_ld153 (by decide +kernel) hc hI hz3 (by omega) (by omega) (fun v4 ev4 pv4 => ?_)
      refine pe_iconstv (n := 1) (v := 1) (by decide +kernel) (by decide +kernel) ?_
      refine pz_icmp_ne (off := 7) (t := 19) (by decide +kernel) (by decide) rfl rfl kz_1 (fun h5 => ?_) (fun h5 => ?_)
      · skip
        refine pe_iconstv (n := 0) (v := 0) (by decide +kernel) (by decide +kernel) ?_
        refine pe_iret (by decide +kernel) rfl rfl ⟨rfl, rfl, ?_⟩
        show pmE pg X pg_tyl pg_cl (d + 3) 240 25 [.ref 147, .int x1] [.int 0] (md wc f A) _
        refine pz_if_eq (off := 26) (t := 51) (by decide +kernel) (by decide) rfl kz_0 (fun h6 => ?_) (fun h6 => by omega)
        refine pz_iinc (j := 1) (n := 1) (by decide +kernel) rfl rfl (by decide +kernel) (by omega) (by omega) (fun z7 hz7 => ?_)
        show pmE pg X pg_tyl pg_cl (d + 3) 240 54 [.ref 147, .int z7] [] (md wc f A) _
        refine pe_goto (off := (-42)) (t := 12) (by decide +kernel) (by decide) rfl ?_
        exact ih A z7 hI (by omega) (by omega)
      · skip
        refine pe_iconstv (n := 1) (v := 1) (by decide +kernel) (by decide +kernel) ?_
        refine pe_goto (off := 4) (t := 20) (by decide +kernel) (by decide) rfl ?_
        refine pe_iret (by decide +kernel) rfl rfl ⟨rfl, rfl, ?_⟩
        show pmE pg X pg_tyl pg_cl (d + 3) 240 25 [.ref 147, .int x1] [.int 1] (md wc f A) _
        refine pz_if_eq (off := 26) (t := 51) (by decide +kernel) (by decide) rfl kz_1 (fun h8 => by omega) (fun h8 => ?_)
        refine pe_aload_n (j := 0) (by decide +kernel) rfl ?_
        refine pe_get (j := 26) (ci := 12) (n := 13) (by decide +kernel) (by decide +kernel) (md_o hc) rfl ?_
        refine pe_bipushv (n := 10) (v := 10) (by decide +kernel) (by decide +kernel) ?_
        refine pe_iload_n (j := 1) (by decide +kernel) rfl ?_
        refine pz_mul (by decide +kernel) kz_10 rfl (by omega) (by omega) (fun z9 hz9 => ?_)
        refine pe_iconstv (n := 2) (v := 2) (by decide +kernel) (by decide +kernel) ?_
        refine pz_add (by decide +kernel) hz9 kz_2 (by omega) (by omega) (fun z10 hz10 => ?_)
        refine mz_ld153 (by decide +kernel) hc hI hz10 (by omega) (by omega) (fun v11 ev11 pv11 => ?_)
        refine pe_aload_n (j := 0) (by decide +kernel) rfl ?_
        refine pe_get (j := 178) (ci := 12) (n := 15) (by decide +kernel) (by decide +kernel) (md_o hc) rfl ?_
        refine pz_icmp_ge (off := 8) (t := 51) (by decide +kernel) (by decide) rfl rfl rfl (fun h12 => ?_) (fun h12 => ?_)
        · skip
          refine pz_iinc (j := 1) (n := 1) (by decide +kernel) rfl rfl (by decide +kernel) (by omega) (by omega) (fun z13 hz13 => ?_)
          show pmE pg X pg_tyl pg_cl (d + 3) 240 54 [.ref 147, .int z13] [] (md wc f A) _
          refine pe_goto (off := (-42)) (t := 12) (by decide +kernel) (by decide) rfl ?_
          exact ih A z13 hI (by omega) (by omega)
        · skip
          refine pe_aload_n (j := 0) (by decide +kernel) rfl ?_
          refine pe_iload_n (j := 1) (by decide +kernel) rfl ?_
          refine pz_callV (j := 196) (mj := 237) (by decide +kernel) (cll_V (args := [.int x1]) (n := 1) (by decide +kernel) rfl rfl (md_o hc) (by decide +kernel) (Nat.le_of_ble_eq_true rfl) (Nat.le_of_ble_eq_true rfl)) (MM_237 hc hI (by omega)) (fun q14a q14b q14c q14d hqq14 => ?_)
          obtain ⟨A15, eq14, hIq14, kq14⟩ := hqq14
          cases eq14
          refine ⟨rfl, rfl, ?_⟩
          show pmE pg X pg_tyl pg_cl (d + 3) 240 51 [.ref 147, .int x1] [] (md wc f A15) _
          refine pz_iinc (j := 1) (n := 1) (by decide +kernel) rfl rfl (by decide +kernel) (by omega) (by omega) (fun z16 hz16 => ?_)
          show pmE pg X pg_tyl pg_cl (d + 3) 240 54 [.ref 147, .int z16] [] (md wc f A15) _
          refine pe_goto (off := (-42)) (t := 12) (by decide +kernel) (by decide) rfl ?_
          exact ih A15 z16 hIq14 (by omega) (by omega)
set_option maxHeartbeats 8000000 in
theorem MM_240 {X : pm_X} {d : Nat} {wc : pm_W} {f : Nat → Int32} {A : Nat → List Int32} (hc : wc.length = 147) (hI : MI f A) : pmE pg X pg_tyl pg_cl (d + 3) 240 0 (pm_ent (pm_max pg 240) [.ref 147]) [] (md wc f A) (fun q => ∃ (f' : Nat → Int32) (A' : Nat → List Int32), q = (none, md wc f' A', 0, 0) ∧ MI f' A' ∧ ((True))) := by
  show pmE pg X pg_tyl pg_cl (d + 3) 240 0 [.ref 147, pm_dead] [] (md wc f A) _
  refine pe_aload_n (j := 0) (by decide +kernel) rfl ?_
  refine pe_dup (by decide +kernel) rfl ?_
  refine pe_get (j := 178) (ci := 12) (n := 15) (by decide +kernel) (by decide +kernel) (md_o hc) rfl ?_
  refine pe_iconstv (n := 1) (v := 1) (by decide +kernel) (by decide +kernel) ?_
  refine pw_add (by decide +kernel) (fun z1 => ?_)
  refine mz_put15 (jj := 178) (by decide +kernel) (by decide +kernel) hc hI (fun f2 ef2 hIf2 => ?_)
  refine pe_iconstv (n := 0) (v := 0) (by decide +kernel) (by decide +kernel) ?_
  refine pe_istore_n (j := 1) (ls' := [.ref 147, .int 0]) (by decide +kernel) (Nat.le_of_ble_eq_true rfl) rfl ?_
  refine ML_240_12 hc (fun A3 y5 hIy4 gy5 => ?_) 31 A 0 hIf2 (by decide +kernel) (by decide +kernel)
  exact pe_vret (by decide +kernel) rfl ⟨f2, A3, rfl, hIy4, trivial⟩
set_option maxHeartbeats 8000000 in
theorem ML_238_40 {X : pm_X} {d : Nat} {wc : pm_W} {Q : pm_R → Prop} {f : Nat → Int32} {x1 : Int32} (hc : wc.length = 147) (gx1 : (0 ≤ x1.toInt ∧ x1.toInt ≤ 8)) (k_76 : ∀ (A' : Nat → List Int32) (y2 : Int32), MI f A' → (9 ≤ y2.toInt ∧ y2.toInt ≤ 9) → pmE pg X pg_tyl pg_cl (d + 3) 238 76 [.ref 147, .int x1, .int y2] [] (md wc f A') Q) : ∀ (m : Nat) (A : Nat → List Int32) (x2 : Int32), MI f A → (0 ≤ x2.toInt ∧ x2.toInt ≤ 9) → 9 - x2.toInt < (m : Int) → pmE pg X pg_tyl pg_cl (d + 3) 238 40 [.ref 147, .int x1, .int x2] [] (md wc f A) Q := by
  intro m
  induction m with
  | zero =>
    intro A x2 hI gx2 hm
    exfalso
    omega
  | succ m ih =>
    intro A x2 hI gx2 hm
    refine pe_iload_n (j := 2) (by decide +kernel) rfl ?_
    refine pe_bipushv (n := 9) (v := 9) (by decide +kernel) (by decide +kernel) ?_
    refine pz_icmp_ge (off := 33) (t := 76) (by decide +kernel) (by decide) rfl rfl kz_9 (fun h1 => ?_) (fun h1 => ?_)
    · skip
      exact k_76 A x2 hI (by omega)
    · skip
      refine pe_aload_n (j := 0) (by decide +kernel) rfl ?_
      refine pe_get (j := 23) (ci := 12) (n := 12) (by decide +kernel) (by decide +kernel) (md_o hc) rfl ?_
      refine pe_bipushv (n := 9) (v := 9) (by decide +kernel) (by decide +kernel) ?_
      refine pe_iload_n (j := 1) (by decide +kernel) rfl ?_
      refine pz_mul (by decide +kernel) kz_9 rfl (by omega) (by omega) (fun z2 hz2 => ?_)
      refine pe_iload_n (j := 2) (by decide +kernel) rfl ?_
      refine pz_add (by decide +kernel) hz2 rfl (by omega) (by omega) (fun z3 hz3 => ?_)
      refine pe_iconstv (n := 0) (v := 0) (by decide +kernel) (by decide +kernel) ?_
      refine mz_st152 (by decide +kernel) hc hI hz3 (by omega) (by omega) (fun A4 eA4 hIA4 => ?_)
      refine pe_aload_n (j := 0) (by decide +kernel) rfl ?_
      refine pe_get (j := 23) (ci := 12) (n := 12) (by decide +kernel) (by decide +kernel) (md_o hc) rfl ?_
      refine pe_bipushv (n := 9) (v := 9) (by decide +kernel) (by decide +kernel) ?_
      refine pe_iload_n (j := 2) (by decide +kernel) rfl ?_
      refine pz_mul (by decide +kernel) kz_9 rfl (by omega) (by omega) (fun z5 hz5 => ?_)
      refine pe_iload_n (j := 1) (by decide +kernel) rfl ?_
      refine pz_add (by decide +kernel) hz5 rfl (by omega) (by omega) (fun z6 hz6 => ?_)
      refine pe_iconstv (n := 0) (v := 0) (by decide +kernel) (by decide +kernel) ?_
      refine mz_st152 (by decide +kernel) hc hIA4 hz6 (by omega) (by omega) (fun A7 eA7 hIA7 => ?_)
      refine pz_iinc (j := 2) (n := 1) (by decide +kernel) rfl rfl (by decide +kernel) (by omega) (by omega) (fun z8 hz8 => ?_)
      show pmE pg X pg_tyl pg_cl (d + 3) 238 73 [.ref 147, .int x1, .int z8] [] (md wc f A7) _
      refine pe_goto (off := (-33)) (t := 40) (by decide +kernel) (by decide) rfl ?_
      exact ih A7 z8 hIA7 (by omega) (by omega)
set_option maxHeartbeats 8000000 in
theorem ML_238_2 {X : pm_X} {d : Nat} {wc : pm_W} {Q : pm_R → Prop} {f : Nat → Int32} {x1 : Int32} (hc : wc.length = 147) (gx1 : (0 ≤ x1.toInt ∧ x1.toInt ≤ 8)) (k_38 : ∀ (A' : Nat → List Int32) (y2 : Int32), MI f A' → (0 ≤ y2.toInt ∧ y2.toInt ≤ 30) → pmE pg X pg_tyl pg_cl (d + 3) 238 38 [.ref 147, .int x1, .int y2] [] (md wc f A') Q) : ∀ (m : Nat) (A : Nat → List Int32) (x2 : Int32), MI f A → (0 ≤ x2.toInt ∧ x2.toInt ≤ 30) → 30 - x2.toInt < (m : Int) → pmE pg X pg_tyl pg_cl (d + 3) 238 2 [.ref 147, .int x1, .int x2] [] (md wc f A) Q := by
  intro m
  induction m with
  | zero =>
    intro A x2 hI gx2 hm
    exfalso
    omega
  | succ m ih =>
    intro A x2 hI gx2 hm
    refine pe_iload_n (j := 2) (by decide +kernel) rfl ?_
    refine pe_aload_n (j := 0) (by decide +kernel) rfl ?_
    refine pe_get (j := 175) (ci := 12) (n := 14) (by decide +kernel) (by decide +kernel) (md_o hc) rfl ?_
    have hr_14_f := hI.1 14
    simp only [MF] at hr_14_f
    refine pz_icmp_ge (off := 31) (t := 38) (by decide +kernel) (by decide) rfl rfl rfl (fun h1 => ?_) (fun h1 => ?_)
    · skip
      exact k_38 A x2 hI (by omega)
    · skip
      refine pe_aload_n (j := 0) (by decide +kernel) rfl ?_
      refine pe_iload_n (j := 2) (by decide +kernel) rfl ?_
      refine pi_V (j := 190) (mj := 236) (by decide +kernel) (cll_V (args := [.int x2]) (n := 1) (by decide +kernel) rfl rfl (md_o hc) (by decide +kernel) (Nat.le_of_ble_eq_true rfl) (Nat.le_of_ble_eq_true rfl)) ?_
      show pmE pg X pg_tyl pg_cl (d + 2) 236 0 [.ref 147, .int x2] [] (md wc f A) _
      refine pe_aload_n (j := 0) (by decide +kernel) rfl ?_
      refine pe_get (j := 26) (ci := 12) (n := 13) (by decide +kernel) (by decide +kernel) (md_o hc) rfl ?_
      refine pe_bipushv (n := 10) (v := 10) (by decide +kernel) (by decide +kernel) ?_
      refine pe_iload_n (j := 1) (by decide +kernel) rfl ?_
      refine pz_mul (by decide +kernel) kz_10 rfl (by omega) (by omega) (fun z2 hz2 => ?_)
      refine pe_iconstv (n := 3) (v := 3) (by decide +kernel) (by decide +kernel) ?_
      refine pz_add (by decide +kernel) hz2 kz_3 (by omega) (by omega) (fun z3 hz3 => ?_)
      refine mz_ld153 (by decide +kernel) hc hI hz3 (by omega) (by omega) (fun v4 ev4 pv4 => ?_)
      refine pe_iconstv (n := 1) (v := 1) (by decide +kernel) (by decide +kernel) ?_
      refine pz_icmp_ne (off := 7) (t := 19) (by decide +kernel) (by decide) rfl rfl kz_1 (fun h5 => ?_) (fun h5 => ?_)
      · skip
        refine pe_iconstv (n := 0) (v := 0) (by decide +kernel) (by decide +kernel) ?_
        refine pe_iret (by decide +kernel) rfl rfl ⟨rfl, rfl, ?_⟩
        show pmE pg X pg_tyl pg_cl (d + 3) 238 15 [.ref 147, .int x1, .int x2] [.int 0] (md wc f A) _
        refine pz_if_eq (off := 17) (t := 32) (by decide +kernel) (by decide) rfl kz_0 (fun h6 => ?_) (fun h6 => by omega)
        refine pz_iinc (j := 2) (n := 1) (by decide +kernel) rfl rfl (by decide +kernel) (by omega) (by omega) (fun z7 hz7 => ?_)
        show pmE pg X pg_tyl pg_cl (d + 3) 238 35 [.ref 147, .int x1, .int z7] [] (md wc f A) _
        refine pe_goto (off := (-33)) (t := 2) (by decide +kernel) (by decide) rfl ?_
        exact ih A z7 hI (by omega) (by omega)
      · skip
        refine pe_iconstv (n := 1) (v := 1) (by decide +kernel) (by decide +kernel) ?_
        refine pe_goto (off := 4) (t := 20) (by decide +kernel) (by decide) rfl ?_
        refine pe_iret (by decide +kernel) rfl rfl ⟨rfl, rfl, ?_⟩
        show pmE pg X pg_tyl pg_cl (d + 3) 238 15 [.ref 147, .int x1, .int x2] [.int 1] (md wc f A) _
        refine pz_if_eq (off := 17) (t := 32) (by decide +kernel) (by decide) rfl kz_1 (fun h8 => by omega) (fun h8 => ?_)
        refine pe_aload_n (j := 0) (by decide +kernel) rfl ?_
        refine pe_iload_n (j := 2) (by decide +kernel) rfl ?_
        refine pe_iload_n (j := 1) (by decide +kernel) rfl ?_
        refine pz_callV (j := 193) (mj := 239) (by decide +kernel) (cll_V (args := [.int x1, .int x2]) (n := 2) (by decide +kernel) rfl rfl (md_o hc) (by decide +kernel) (Nat.le_of_ble_eq_true rfl) (Nat.le_of_ble_eq_true rfl)) (MM_239 hc hI (by omega)) (fun q9a q9b q9c q9d hqq9 => ?_)
        obtain ⟨rq9, eq9, kq9⟩ := hqq9
        cases eq9
        refine ⟨rfl, rfl, ?_⟩
        show pmE pg X pg_tyl pg_cl (d + 3) 238 24 [.ref 147, .int x1, .int x2] [.int rq9] (md wc f A) _
        refine pz_if_eq (off := 8) (t := 32) (by decide +kernel) (by decide) rfl rfl (fun h10 => ?_) (fun h10 => ?_)
        · skip
          refine pz_iinc (j := 2) (n := 1) (by decide +kernel) rfl rfl (by decide +kernel) (by omega) (by omega) (fun z11 hz11 => ?_)
          show pmE pg X pg_tyl pg_cl (d + 3) 238 35 [.ref 147, .int x1, .int z11] [] (md wc f A) _
          refine pe_goto (off := (-33)) (t := 2) (by decide +kernel) (by decide) rfl ?_
          exact ih A z11 hI (by omega) (by omega)
        · skip
          refine pe_aload_n (j := 0) (by decide +kernel) rfl ?_
          refine pe_iload_n (j := 2) (by decide +kernel) rfl ?_
          refine pz_callV (j := 196) (mj := 237) (by decide +kernel) (cll_V (args := [.int x2]) (n := 1) (by decide +kernel) rfl rfl (md_o hc) (by decide +kernel) (Nat.le_of_ble_eq_true rfl) (Nat.le_of_ble_eq_true rfl)) (MM_237 hc hI (by omega)) (fun q12a q12b q12c q12d hqq12 => ?_)
          obtain ⟨A13, eq12, hIq12, kq12⟩ := hqq12
          cases eq12
          refine ⟨rfl, rfl, ?_⟩
          show pmE pg X pg_tyl pg_cl (d + 3) 238 32 [.ref 147, .int x1, .int x2] [] (md wc f A13) _
          refine pz_iinc (j := 2) (n := 1) (by decide +kernel) rfl rfl (by decide +kernel) (by omega) (by omega) (fun z14 hz14 => ?_)
          show pmE pg X pg_tyl pg_cl (d + 3) 238 35 [.ref 147, .int x1, .int z14] [] (md wc f A13) _
          refine pe_goto (off := (-33)) (t := 2) (by decide +kernel) (by decide) rfl ?_
          exact ih A13 z14 hIq12 (by omega) (by omega)
set_option maxHeartbeats 8000000 in
theorem MM_238 {X : pm_X} {d : Nat} {wc : pm_W} {f : Nat → Int32} {A : Nat → List Int32} {x1 : Int32} (hc : wc.length = 147) (hI : MI f A) (gx1 : (0 ≤ x1.toInt ∧ x1.toInt ≤ 8)) : pmE pg X pg_tyl pg_cl (d + 3) 238 0 (pm_ent (pm_max pg 238) [.ref 147, .int x1]) [] (md wc f A) (fun q => ∃ (A' : Nat → List Int32), q = (none, md wc f A', 0, 0) ∧ MI f A' ∧ ((True))) := by
  show pmE pg X pg_tyl pg_cl (d + 3) 238 0 [.ref 147, .int x1, pm_dead] [] (md wc f A) _
  refine pe_iconstv (n := 0) (v := 0) (by decide +kernel) (by decide +kernel) ?_
  refine pe_istore_n (j := 2) (ls' := [.ref 147, .int x1, .int 0]) (by decide +kernel) (Nat.le_of_ble_eq_true rfl) rfl ?_
  refine ML_238_2 hc (by omega) (fun A1 y3 hIy2 gy3 => ?_) 31 A 0 hI (by decide +kernel) (by decide +kernel)
  refine pe_iconstv (n := 0) (v := 0) (by decide +kernel) (by decide +kernel) ?_
  refine pe_istore_n (j := 2) (ls' := [.ref 147, .int x1, .int 0]) (by decide +kernel) (Nat.le_of_ble_eq_true rfl) rfl ?_
  refine ML_238_40 hc (by omega) (fun A4 y6 hIy5 gy6 => ?_) 10 A1 0 hIy2 (by decide +kernel) (by decide +kernel)
  exact pe_vret (by decide +kernel) rfl ⟨A4, rfl, hIy5, trivial⟩
set_option maxHeartbeats 8000000 in
theorem ML_299_4 {X : pm_X} {d : Nat} {wc : pm_W} {Q : pm_R → Prop} {f : Nat → Int32} {A : Nat → List Int32} {x1 : Int32} (hc : wc.length = 147) (hI : MI f A) (k_45 : ∀ (y2 : Int32) (y3 : Int32), (0 ≤ y3.toInt ∧ y3.toInt ≤ 30) → pmE pg X pg_tyl pg_cl (d + 2) 299 45 [.ref 147, .int x1, .int y2, .int y3] [] (md wc f A) Q) : ∀ (m : Nat) (x2 : Int32) (x3 : Int32), (0 ≤ x3.toInt ∧ x3.toInt ≤ 30) → 30 - x3.toInt < (m : Int) → pmE pg X pg_tyl pg_cl (d + 2) 299 4 [.ref 147, .int x1, .int x2, .int x3] [] (md wc f A) Q := by
  intro m
  induction m with
  | zero =>
    intro x2 x3 gx3 hm
    exfalso
    omega
  | succ m ih =>
    intro x2 x3 gx3 hm
    refine pe_iload_n (j := 3) (by decide +kernel) rfl ?_
    refine pe_aload_n (j := 0) (by decide +kernel) rfl ?_
    refine pe_get (j := 175) (ci := 12) (n := 14) (by decide +kernel) (by decide +kernel) (md_o hc) rfl ?_
    have hr_14_f := hI.1 14
    simp only [MF] at hr_14_f
    refine pz_icmp_ge (off := 36) (t := 45) (by decide +kernel) (by decide) rfl rfl rfl (fun h1 => ?_) (fun h1 => ?_)
    · skip
      exact k_45 x2 x3 (by omega)
    · skip
      refine pe_iload_n (j := 2) (by decide +kernel) rfl ?_
      refine pe_aload_n (j := 0) (by decide +kernel) rfl ?_
      refine pe_iload_n (j := 3) (by decide +kernel) rfl ?_
      refine pi_V (j := 190) (mj := 236) (by decide +kernel) (cll_V (args := [.int x3]) (n := 1) (by decide +kernel) rfl rfl (md_o hc) (by decide +kernel) (Nat.le_of_ble_eq_true rfl) (Nat.le_of_ble_eq_true rfl)) ?_
      show pmE pg X pg_tyl pg_cl (d + 1) 236 0 [.ref 147, .int x3] [] (md wc f A) _
      refine pe_aload_n (j := 0) (by decide +kernel) rfl ?_
      refine pe_get (j := 26) (ci := 12) (n := 13) (by decide +kernel) (by decide +kernel) (md_o hc) rfl ?_
      refine pe_bipushv (n := 10) (v := 10) (by decide +kernel) (by decide +kernel) ?_
      refine pe_iload_n (j := 1) (by decide +kernel) rfl ?_
      refine pz_mul (by decide +kernel) kz_10 rfl (by omega) (by omega) (fun z2 hz2 => ?_)
      refine pe_iconstv (n := 3) (v := 3) (by decide +kernel) (by decide +kernel) ?_
      refine pz_add (by decide +kernel) hz2 kz_3 (by omega) (by omega) (fun z3 hz3 => ?_)
      refine mz_ld153 (by decide +kernel) hc hI hz3 (by omega) (by omega) (fun v4 ev4 pv4 => ?_)
      refine pe_iconstv (n := 1) (v := 1) (by decide +kernel) (by decide +kernel) ?_
      refine pz_icmp_ne (off := 7) (t := 19) (by decide +kernel) (by decide) rfl rfl kz_1 (fun h5 => ?_) (fun h5 => ?_)
      · skip
        refine pe_iconstv (n := 0) (v := 0) (by decide +kernel) (by decide +kernel) ?_
        refine pe_iret (by decide +kernel) rfl rfl ⟨rfl, rfl, ?_⟩
        show pmE pg X pg_tyl pg_cl (d + 2) 299 18 [.ref 147, .int x1, .int x2, .int x3] [.int 0, .int x2] (md wc f A) _
        refine pz_if_eq (off := 18) (t := 36) (by decide +kernel) (by decide) rfl kz_0 (fun h6 => ?_) (fun h6 => by omega)
        refine pe_iconstv (n := 0) (v := 0) (by decide +kernel) (by decide +kernel) ?_
        refine pw_or (by decide +kernel) (fun z7 => ?_)
        refine pe_istore_n (j := 2) (ls' := [.ref 147, .int x1, .int z7, .int x3]) (by decide +kernel) (Nat.le_of_ble_eq_true rfl) rfl ?_
        refine pz_iinc (j := 3) (n := 1) (by decide +kernel) rfl rfl (by decide +kernel) (by omega) (by omega) (fun z8 hz8 => ?_)
        show pmE pg X pg_tyl pg_cl (d + 2) 299 42 [.ref 147, .int x1, .int z7, .int z8] [] (md wc f A) _
        refine pe_goto (off := (-38)) (t := 4) (by decide +kernel) (by decide) rfl ?_
        exact ih z7 z8 (by omega) (by omega)
      · skip
        refine pe_iconstv (n := 1) (v := 1) (by decide +kernel) (by decide +kernel) ?_
        refine pe_goto (off := 4) (t := 20) (by decide +kernel) (by decide) rfl ?_
        refine pe_iret (by decide +kernel) rfl rfl ⟨rfl, rfl, ?_⟩
        show pmE pg X pg_tyl pg_cl (d + 2) 299 18 [.ref 147, .int x1, .int x2, .int x3] [.int 1, .int x2] (md wc f A) _
        refine pz_if_eq (off := 18) (t := 36) (by decide +kernel) (by decide) rfl kz_1 (fun h9 => by omega) (fun h9 => ?_)
        refine pe_aload_n (j := 0) (by decide +kernel) rfl ?_
        refine pe_iload_n (j := 3) (by decide +kernel) rfl ?_
        refine pe_iload_n (j := 1) (by decide +kernel) rfl ?_
        refine pz_callV (j := 193) (mj := 239) (by decide +kernel) (cll_V (args := [.int x1, .int x3]) (n := 2) (by decide +kernel) rfl rfl (md_o hc) (by decide +kernel) (Nat.le_of_ble_eq_true rfl) (Nat.le_of_ble_eq_true rfl)) (MM_239 hc hI (by omega)) (fun q10a q10b q10c q10d hqq10 => ?_)
        obtain ⟨rq10, eq10, kq10⟩ := hqq10
        cases eq10
        refine ⟨rfl, rfl, ?_⟩
        show pmE pg X pg_tyl pg_cl (d + 2) 299 27 [.ref 147, .int x1, .int x2, .int x3] [.int rq10, .int x2] (md wc f A) _
        refine pz_if_eq (off := 9) (t := 36) (by decide +kernel) (by decide) rfl rfl (fun h11 => ?_) (fun h11 => ?_)
        · skip
          refine pe_iconstv (n := 0) (v := 0) (by decide +kernel) (by decide +kernel) ?_
          refine pw_or (by decide +kernel) (fun z12 => ?_)
          refine pe_istore_n (j := 2) (ls' := [.ref 147, .int x1, .int z12, .int x3]) (by decide +kernel) (Nat.le_of_ble_eq_true rfl) rfl ?_
          refine pz_iinc (j := 3) (n := 1) (by decide +kernel) rfl rfl (by decide +kernel) (by omega) (by omega) (fun z13 hz13 => ?_)
          show pmE pg X pg_tyl pg_cl (d + 2) 299 42 [.ref 147, .int x1, .int z12, .int z13] [] (md wc f A) _
          refine pe_goto (off := (-38)) (t := 4) (by decide +kernel) (by decide) rfl ?_
          exact ih z12 z13 (by omega) (by omega)
        · skip
          refine pe_iconstv (n := 1) (v := 1) (by decide +kernel) (by decide +kernel) ?_
          refine pe_iload_n (j := 3) (by decide +kernel) rfl ?_
          refine pw_shl (by decide +kernel) (fun z14 => ?_)
          refine pe_goto (off := 4) (t := 37) (by decide +kernel) (by decide) rfl ?_
          refine pw_or (by decide +kernel) (fun z15 => ?_)
          refine pe_istore_n (j := 2) (ls' := [.ref 147, .int x1, .int z15, .int x3]) (by decide +kernel) (Nat.le_of_ble_eq_true rfl) rfl ?_
          refine pz_iinc (j := 3) (n := 1) (by decide +kernel) rfl rfl (by decide +kernel) (by omega) (by omega) (fun z16 hz16 => ?_)
          show pmE pg X pg_tyl pg_cl (d + 2) 299 42 [.ref 147, .int x1, .int z15, .int z16] [] (md wc f A) _
          refine pe_goto (off := (-38)) (t := 4) (by decide +kernel) (by decide) rfl ?_
          exact ih z15 z16 (by omega) (by omega)
set_option maxHeartbeats 8000000 in
theorem MM_299 {X : pm_X} {d : Nat} {wc : pm_W} {f : Nat → Int32} {A : Nat → List Int32} {x1 : Int32} (hc : wc.length = 147) (hI : MI f A) : pmE pg X pg_tyl pg_cl (d + 2) 299 0 (pm_ent (pm_max pg 299) [.ref 147, .int x1]) [] (md wc f A) (fun q => ∃ (r : Int32), q = (some (.int r), md wc f A, 0, 0) ∧ ((True ∧ True))) := by
  show pmE pg X pg_tyl pg_cl (d + 2) 299 0 [.ref 147, .int x1, pm_dead, pm_dead] [] (md wc f A) _
  refine pe_iconstv (n := 0) (v := 0) (by decide +kernel) (by decide +kernel) ?_
  refine pe_istore_n (j := 2) (ls' := [.ref 147, .int x1, .int 0, pm_dead]) (by decide +kernel) (Nat.le_of_ble_eq_true rfl) rfl ?_
  refine pe_iconstv (n := 0) (v := 0) (by decide +kernel) (by decide +kernel) ?_
  refine pe_istore_n (j := 3) (ls' := [.ref 147, .int x1, .int 0, .int 0]) (by decide +kernel) (Nat.le_of_ble_eq_true rfl) rfl ?_
  refine ML_299_4 hc hI (fun y1 y2 gy2 => ?_) 31 0 0 (by decide +kernel) (by decide +kernel)
  refine pe_iload_n (j := 2) (by decide +kernel) rfl ?_
  exact pe_iret (by decide +kernel) rfl rfl ⟨y1, rfl, ⟨trivial, trivial⟩⟩
set_option maxHeartbeats 8000000 in
theorem ML_261_57 {X : pm_X} {d : Nat} {wc : pm_W} {Q : pm_R → Prop} {f : Nat → Int32} {A : Nat → List Int32} {x1 x2 x3 x4 x6 : Int32} (hc : wc.length = 147) (hI : MI f A) (gx1 : (x1.toInt = 610 ∨ x1.toInt = 742)) (gx4 : (0 ≤ x4.toInt ∧ x4.toInt ≤ 8)) (gx6 : (0 ≤ x6.toInt ∧ x6.toInt ≤ 8)) (k_101 : ∀ (y5 : Int32) (y7 : Int32), (0 ≤ y7.toInt ∧ y7.toInt ≤ 9) → pmE pg X pg_tyl pg_cl (d + 3) 261 101 [.ref 147, .int x1, .int x2, .int x3, .int x4, .int y5, .int x6, .int y7] [] (md wc f A) Q) : ∀ (m : Nat) (x5 : Int32) (x7 : Int32), (0 ≤ x7.toInt ∧ x7.toInt ≤ 9) → 9 - x7.toInt < (m : Int) → pmE pg X pg_tyl pg_cl (d + 3) 261 57 [.ref 147, .int x1, .int x2, .int x3, .int x4, .int x5, .int x6, .int x7] [] (md wc f A) Q := by
  intro m
  induction m with
  | zero =>
    intro x5 x7 gx7 hm
    exfalso
    omega
  | succ m ih =>
    intro x5 x7 gx7 hm
    refine pe_iload (j := 7) (by decide +kernel) rfl ?_
    refine pe_aload_n (j := 0) (by decide +kernel) rfl ?_
    refine pe_get (j := 7) (ci := 12) (n := 0) (by decide +kernel) (by decide +kernel) (md_o hc) rfl ?_
    refine pe_iload_n (j := 1) (by decide +kernel) rfl ?_
    refine mz_ld148 (by decide +kernel) hc hI rfl (by omega) (by omega) (fun v1 ev1 pv1 => ?_)
    have rv1 : 0 ≤ v1.toInt ∧ v1.toInt ≤ 9 := MT_people pv1 (by omega)
    clear pv1
    refine pz_icmp_ge (off := 36) (t := 101) (by decide +kernel) (by decide) rfl rfl rfl (fun h2 => ?_) (fun h2 => ?_)
    · skip
      exact k_101 x5 x7 (by omega)
    · skip
      refine pe_iload (j := 5) (by decide +kernel) rfl ?_
      refine pe_iload (j := 5) (by decide +kernel) rfl ?_
      refine pe_iload (j := 7) (by decide +kernel) rfl ?_
      refine pw_shr (by decide +kernel) (fun z3 => ?_)
      refine pe_iconstv (n := 1) (v := 1) (by decide +kernel) (by decide +kernel) ?_
      refine pz_and1 (by decide +kernel) (fun z4 hz4 => ?_)
      refine pe_iconstv (n := 1) (v := 1) (by decide +kernel) (by decide +kernel) ?_
      refine pz_icmp_ne (off := 13) (t := 91) (by decide +kernel) (by decide) rfl rfl kz_1 (fun h5 => ?_) (fun h5 => ?_)
      · skip
        refine pe_iconstv (n := 0) (v := 0) (by decide +kernel) (by decide +kernel) ?_
        refine pw_or (by decide +kernel) (fun z6 => ?_)
        refine pe_istore (j := 5) (ls' := [.ref 147, .int x1, .int x2, .int x3, .int x4, .int z6, .int x6, .int x7]) (by decide +kernel) (Nat.le_of_ble_eq_true rfl) rfl ?_
        refine pz_iinc (j := 7) (n := 1) (by decide +kernel) rfl rfl (by decide +kernel) (by omega) (by omega) (fun z7 hz7 => ?_)
        show pmE pg X pg_tyl pg_cl (d + 3) 261 98 [.ref 147, .int x1, .int x2, .int x3, .int x4, .int z6, .int x6, .int z7] [] (md wc f A) _
        refine pe_goto (off := (-41)) (t := 57) (by decide +kernel) (by decide) rfl ?_
        exact ih z6 z7 (by omega) (by omega)
      · skip
        refine pe_aload_n (j := 0) (by decide +kernel) rfl ?_
        refine pe_iload_n (j := 1) (by decide +kernel) rfl ?_
        refine pe_iload (j := 7) (by decide +kernel) rfl ?_
        refine pz_callV (j := 251) (mj := 260) (by decide +kernel) (cll_V (args := [.int x7, .int x1]) (n := 2) (by decide +kernel) rfl rfl (md_o hc) (by decide +kernel) (Nat.le_of_ble_eq_true rfl) (Nat.le_of_ble_eq_true rfl)) (MM_260 hc hI (by omega) (by omega)) (fun q8a q8b q8c q8d hqq8 => ?_)
        obtain ⟨rq8, eq8, kq8⟩ := hqq8
        cases eq8
        refine ⟨rfl, rfl, ?_⟩
        show pmE pg X pg_tyl pg_cl (d + 3) 261 88 [.ref 147, .int x1, .int x2, .int x3, .int x4, .int x5, .int x6, .int x7] [.int rq8, .int x5] (md wc f A) _
        refine pe_goto (off := 4) (t := 92) (by decide +kernel) (by decide) rfl ?_
        refine pw_or (by decide +kernel) (fun z9 => ?_)
        refine pe_istore (j := 5) (ls' := [.ref 147, .int x1, .int x2, .int x3, .int x4, .int z9, .int x6, .int x7]) (by decide +kernel) (Nat.le_of_ble_eq_true rfl) rfl ?_
        refine pz_iinc (j := 7) (n := 1) (by decide +kernel) rfl rfl (by decide +kernel) (by omega) (by omega) (fun z10 hz10 => ?_)
        show pmE pg X pg_tyl pg_cl (d + 3) 261 98 [.ref 147, .int x1, .int x2, .int x3, .int x4, .int z9, .int x6, .int z10] [] (md wc f A) _
        refine pe_goto (off := (-41)) (t := 57) (by decide +kernel) (by decide) rfl ?_
        exact ih z9 z10 (by omega) (by omega)
set_option maxHeartbeats 8000000 in
theorem ML_261_47 {X : pm_X} {d : Nat} {wc : pm_W} {Q : pm_R → Prop} {f : Nat → Int32} {A : Nat → List Int32} {x1 x2 x3 x4 : Int32} (hc : wc.length = 147) (hI : MI f A) (gx1 : (x1.toInt = 610 ∨ x1.toInt = 742)) (gx4 : (0 ≤ x4.toInt ∧ x4.toInt ≤ 8)) (k_107 : ∀ (y5 : Int32) (y6 : Int32) (v7 : Value), (9 ≤ y6.toInt ∧ y6.toInt ≤ 9) → pmE pg X pg_tyl pg_cl (d + 3) 261 107 [.ref 147, .int x1, .int x2, .int x3, .int x4, .int y5, .int y6, v7] [] (md wc f A) Q) : ∀ (m : Nat) (x5 : Int32) (x6 : Int32) (u7 : Value), (0 ≤ x6.toInt ∧ x6.toInt ≤ 9) → 9 - x6.toInt < (m : Int) → pmE pg X pg_tyl pg_cl (d + 3) 261 47 [.ref 147, .int x1, .int x2, .int x3, .int x4, .int x5, .int x6, u7] [] (md wc f A) Q := by
  intro m
  induction m with
  | zero =>
    intro x5 x6 u7 gx6 hm
    exfalso
    omega
  | succ m ih =>
    intro x5 x6 u7 gx6 hm
    refine pe_iload (j := 6) (by decide +kernel) rfl ?_
    refine pe_bipushv (n := 9) (v := 9) (by decide +kernel) (by decide +kernel) ?_
    refine pz_icmp_ge (off := 56) (t := 107) (by decide +kernel) (by decide) rfl rfl kz_9 (fun h1 => ?_) (fun h1 => ?_)
    · skip
      exact k_107 x5 x6 (u7) (by omega)
    · skip
      refine pe_iconstv (n := 0) (v := 0) (by decide +kernel) (by decide +kernel) ?_
      refine pe_istore (j := 7) (ls' := [.ref 147, .int x1, .int x2, .int x3, .int x4, .int x5, .int x6, .int 0]) (by decide +kernel) (Nat.le_of_ble_eq_true rfl) rfl ?_
      refine ML_261_57 hc hI (by omega) (by omega) (by omega) (fun y2 y3 gy3 => ?_) 10 x5 0 (by decide +kernel) (by decide +kernel)
      refine pz_iinc (j := 6) (n := 1) (by decide +kernel) rfl rfl (by decide +kernel) (by omega) (by omega) (fun z4 hz4 => ?_)
      show pmE pg X pg_tyl pg_cl (d + 3) 261 104 [.ref 147, .int x1, .int x2, .int x3, .int x4, .int y2, .int z4, .int y3] [] (md wc f A) _
      refine pe_goto (off := (-57)) (t := 47) (by decide +kernel) (by decide) rfl ?_
      exact ih y2 z4 (.int y3) (by omega) (by omega)
set_option maxHeartbeats 8000000 in
theorem ML_261_11 {X : pm_X} {d : Nat} {wc : pm_W} {Q : pm_R → Prop} {f : Nat → Int32} {A : Nat → List Int32} {x1 : Int32} (hc : wc.length = 147) (hI : MI f A) (gx1 : (x1.toInt = 610 ∨ x1.toInt = 742)) (k_118 : ∀ (y2 : Int32) (y3 : Int32) (y4 : Int32) (v5 : Value) (v6 : Value) (v7 : Value), (0 ≤ y4.toInt ∧ y4.toInt ≤ 9) → pmE pg X pg_tyl pg_cl (d + 3) 261 118 [.ref 147, .int x1, .int y2, .int y3, .int y4, v5, v6, v7] [] (md wc f A) Q) : ∀ (m : Nat) (x2 : Int32) (x3 : Int32) (x4 : Int32) (u5 : Value) (u6 : Value) (u7 : Value), (0 ≤ x4.toInt ∧ x4.toInt ≤ 9) → 9 - x4.toInt < (m : Int) → pmE pg X pg_tyl pg_cl (d + 3) 261 11 [.ref 147, .int x1, .int x2, .int x3, .int x4, u5, u6, u7] [] (md wc f A) Q := by
  intro m
  induction m with
  | zero =>
    intro x2 x3 x4 u5 u6 u7 gx4 hm
    exfalso
    omega
  | succ m ih =>
    intro x2 x3 x4 u5 u6 u7 gx4 hm
    refine pe_iload (j := 4) (by decide +kernel) rfl ?_
    refine pe_aload_n (j := 0) (by decide +kernel) rfl ?_
    refine pe_get (j := 7) (ci := 12) (n := 0) (by decide +kernel) (by decide +kernel) (md_o hc) rfl ?_
    refine pe_iload_n (j := 1) (by decide +kernel) rfl ?_
    refine mz_ld148 (by decide +kernel) hc hI rfl (by omega) (by omega) (fun v1 ev1 pv1 => ?_)
    have rv1 : 0 ≤ v1.toInt ∧ v1.toInt ≤ 9 := MT_people pv1 (by omega)
    clear pv1
    refine pz_icmp_ge (off := 99) (t := 118) (by decide +kernel) (by decide) rfl rfl rfl (fun h2 => ?_) (fun h2 => ?_)
    · skip
      exact k_118 x2 x3 x4 (u5) (u6) (u7) (by omega)
    · skip
      refine pe_iload_n (j := 2) (by decide +kernel) rfl ?_
      refine pe_iload (j := 4) (by decide +kernel) rfl ?_
      refine pw_shr (by decide +kernel) (fun z3 => ?_)
      refine pe_iconstv (n := 1) (v := 1) (by decide +kernel) (by decide +kernel) ?_
      refine pz_and1 (by decide +kernel) (fun z4 hz4 => ?_)
      refine pe_iconstv (n := 1) (v := 1) (by decide +kernel) (by decide +kernel) ?_
      refine pz_icmp_ne (off := 6) (t := 35) (by decide +kernel) (by decide) rfl rfl kz_1 (fun h5 => ?_) (fun h5 => ?_)
      · skip
        refine pw_iinc (j := 3) (n := 1) (by decide +kernel) rfl (fun z6 => ?_)
        show pmE pg X pg_tyl pg_cl (d + 3) 261 38 [.ref 147, .int x1, .int x2, .int z6, .int x4, u5, u6, u7] [] (md wc f A) _
        refine pe_iconstv (n := 1) (v := 1) (by decide +kernel) (by decide +kernel) ?_
        refine pe_iload (j := 4) (by decide +kernel) rfl ?_
        refine pw_shl (by decide +kernel) (fun z7 => ?_)
        refine pe_istore (j := 5) (ls' := [.ref 147, .int x1, .int x2, .int z6, .int x4, .int z7, u6, u7]) (by decide +kernel) (Nat.le_of_ble_eq_true rfl) rfl ?_
        refine pe_iconstv (n := 0) (v := 0) (by decide +kernel) (by decide +kernel) ?_
        refine pe_istore (j := 6) (ls' := [.ref 147, .int x1, .int x2, .int z6, .int x4, .int z7, .int 0, u7]) (by decide +kernel) (Nat.le_of_ble_eq_true rfl) rfl ?_
        refine ML_261_47 hc hI (by omega) (by omega) (fun y8 y9 u10 gy9 => ?_) 10 z7 0 (u7) (by decide +kernel) (by decide +kernel)
        refine pe_iload_n (j := 2) (by decide +kernel) rfl ?_
        refine pe_iload (j := 5) (by decide +kernel) rfl ?_
        refine pw_or (by decide +kernel) (fun z11 => ?_)
        refine pe_istore_n (j := 2) (ls' := [.ref 147, .int x1, .int z11, .int z6, .int x4, .int y8, .int y9, u10]) (by decide +kernel) (Nat.le_of_ble_eq_true rfl) rfl ?_
        refine pz_iinc (j := 4) (n := 1) (by decide +kernel) rfl rfl (by decide +kernel) (by omega) (by omega) (fun z12 hz12 => ?_)
        show pmE pg X pg_tyl pg_cl (d + 3) 261 115 [.ref 147, .int x1, .int z11, .int z6, .int z12, .int y8, .int y9, u10] [] (md wc f A) _
        refine pe_goto (off := (-104)) (t := 11) (by decide +kernel) (by decide) rfl ?_
        exact ih z11 z6 z12 (.int y8) (.int y9) (u10) (by omega) (by omega)
      · skip
        refine pe_goto (off := 80) (t := 112) (by decide +kernel) (by decide) rfl ?_
        refine pz_iinc (j := 4) (n := 1) (by decide +kernel) rfl rfl (by decide +kernel) (by omega) (by omega) (fun z13 hz13 => ?_)
        show pmE pg X pg_tyl pg_cl (d + 3) 261 115 [.ref 147, .int x1, .int x2, .int x3, .int z13, u5, u6, u7] [] (md wc f A) _
        refine pe_goto (off := (-104)) (t := 11) (by decide +kernel) (by decide) rfl ?_
        exact ih x2 x3 z13 (u5) (u6) (u7) (by omega) (by omega)
set_option maxHeartbeats 8000000 in
theorem MM_261 {X : pm_X} {d : Nat} {wc : pm_W} {f : Nat → Int32} {A : Nat → List Int32} {x1 : Int32} (hc : wc.length = 147) (hI : MI f A) (gx1 : (x1.toInt = 610 ∨ x1.toInt = 742)) : pmE pg X pg_tyl pg_cl (d + 3) 261 0 (pm_ent (pm_max pg 261) [.ref 147, .int x1]) [] (md wc f A) (fun q => ∃ (r : Int32), q = (some (.int r), md wc f A, 0, 0) ∧ ((True ∧ True))) := by
  show pmE pg X pg_tyl pg_cl (d + 3) 261 0 [.ref 147, .int x1, pm_dead, pm_dead, pm_dead, pm_dead, pm_dead, pm_dead] [] (md wc f A) _
  refine pe_aload_n (j := 0) (by decide +kernel) rfl ?_
  refine pe_iload_n (j := 1) (by decide +kernel) rfl ?_
  refine pz_callV (j := 254) (mj := 259) (by decide +kernel) (cll_V (args := [.int x1]) (n := 1) (by decide +kernel) rfl rfl (md_o hc) (by decide +kernel) (Nat.le_of_ble_eq_true rfl) (Nat.le_of_ble_eq_true rfl)) (MM_259 hc hI (by omega)) (fun q1a q1b q1c q1d hqq1 => ?_)
  obtain ⟨rq1, eq1, kq1⟩ := hqq1
  cases eq1
  refine ⟨rfl, rfl, ?_⟩
  show pmE pg X pg_tyl pg_cl (d + 3) 261 5 [.ref 147, .int x1, pm_dead, pm_dead, pm_dead, pm_dead, pm_dead, pm_dead] [.int rq1] (md wc f A) _
  refine pe_istore_n (j := 2) (ls' := [.ref 147, .int x1, .int rq1, pm_dead, pm_dead, pm_dead, pm_dead, pm_dead]) (by decide +kernel) (Nat.le_of_ble_eq_true rfl) rfl ?_
  refine pe_iconstv (n := 0) (v := 0) (by decide +kernel) (by decide +kernel) ?_
  refine pe_istore_n (j := 3) (ls' := [.ref 147, .int x1, .int rq1, .int 0, pm_dead, pm_dead, pm_dead, pm_dead]) (by decide +kernel) (Nat.le_of_ble_eq_true rfl) rfl ?_
  refine pe_iconstv (n := 0) (v := 0) (by decide +kernel) (by decide +kernel) ?_
  refine pe_istore (j := 4) (ls' := [.ref 147, .int x1, .int rq1, .int 0, .int 0, pm_dead, pm_dead, pm_dead]) (by decide +kernel) (Nat.le_of_ble_eq_true rfl) rfl ?_
  refine ML_261_11 hc hI (by omega) (fun y2 y3 y4 u5 u6 u7 gy4 => ?_) 10 rq1 0 0 (pm_dead) (pm_dead) (pm_dead) (by decide +kernel) (by decide +kernel)
  refine pe_iload_n (j := 3) (by decide +kernel) rfl ?_
  exact pe_iret (by decide +kernel) rfl rfl ⟨y3, rfl, ⟨trivial, trivial⟩⟩
