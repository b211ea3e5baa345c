set_option maxRecDepth 100000 in
set_option maxHeartbeats 8000000 in
theorem ML_288_5 {X : pm_X} {d : Nat} {wc : pm_W} {Q : pm_R → Prop} {f : Nat → Int32} {A : Nat → List Int32} {x1 x2 : Int32} (hc : wc.length = 147) (hI : MI f A) (gx1 : (610 ≤ x1.toInt ∧ x1.toInt ≤ 742 ∧ (x1.toInt - 610) % 132 = 0)) (k_42_0 : ∀ (y3 : Int32) (y4 : Int32), (0 ≤ y4.toInt ∧ y4.toInt ≤ 7) → pmE pg X pg_tyl pg_cl (d + 1) 288 42 [.ref 147, .int x1, .int x2, .int y3, .int y4] [] (md wc f A) Q) : ∀ (m : Nat) (x3 : Int32) (x4 : Int32), (0 ≤ x4.toInt ∧ x4.toInt ≤ 7) → 7 - x4.toInt < (m : Int) → pmE pg X pg_tyl pg_cl (d + 1) 288 5 [.ref 147, .int x1, .int x2, .int x3, .int x4] [] (md wc f A) Q := by
  intro m
  induction m with
  | zero =>
    intro x3 x4 gx4 hm
    exfalso
    have l0 := zi_lo x4
    have u0 := zi_hi x4
    omega
  | succ m ih =>
    intro x3 x4 gx4 hm
    refine pe_iload (j := 4) (by decide +kernel) rfl ?_
    refine pe_aload_n (j := 0) (by decide +kernel) rfl ?_
    refine pe_get (j := 7) (ci := 12) (n := 0) (by decide +kernel) (by decide +kernel) (md_o hc) rfl ?_
    refine pe_iload_n (j := 1) (by decide +kernel) rfl ?_
    refine pe_iconstv (n := 1) (v := 1) (by decide +kernel) (by decide +kernel) ?_
    refine pz_add (by decide +kernel) rfl kz_1 (by omega) (by omega) (fun z1 hz1 => ?_)
    refine mz_ld148 (by decide +kernel) hc hI hz1 (by omega) (by omega) (fun v2 ev2 pv2 => ?_)
    have rv2 : 0 ≤ v2.toInt ∧ v2.toInt ≤ 7 := MT_wants pv2 (by omega)
    clear pv2
    clear hz1
    refine pz_icmp_ge (off := 27) (t := 42) (by decide +kernel) (by decide) rfl rfl rfl (fun h3 => ?_) (fun h3 => ?_)
    · skip
      exact k_42_0 x3 x4 (by omega)
    · skip
      refine pe_iload_n (j := 3) (by decide +kernel) rfl ?_
      refine pe_iload_n (j := 2) (by decide +kernel) rfl ?_
      refine pe_iload (j := 4) (by decide +kernel) rfl ?_
      refine pw_shr (by decide +kernel) (fun z4 => ?_)
      refine pe_iconstv (n := 1) (v := 1) (by decide +kernel) (by decide +kernel) ?_
      refine pz_and1 (by decide +kernel) (fun z5 hz5 => ?_)
      refine pe_aload_n (j := 0) (by decide +kernel) rfl ?_
      refine pe_iload_n (j := 1) (by decide +kernel) rfl ?_
      refine pe_iload (j := 4) (by decide +kernel) rfl ?_
      refine pe_iconstv (n := 3) (v := 3) (by decide +kernel) (by decide +kernel) ?_
      refine pi_V (j := 172) (mj := 224) (by decide +kernel) (cll_V (args := [.int 3, .int x4, .int x1]) (n := 3) (by decide +kernel) rfl rfl (md_o hc) (by decide +kernel) (Nat.le_of_ble_eq_true rfl) (Nat.le_of_ble_eq_true rfl)) ?_
      show pmE pg X pg_tyl pg_cl (d) 224 0 [.ref 147, .int x1, .int x4, .int 3] [] (md wc f A) _
      refine pe_aload_n (j := 0) (by decide +kernel) rfl ?_
      refine pe_get (j := 7) (ci := 12) (n := 0) (by decide +kernel) (by decide +kernel) (md_o hc) rfl ?_
      refine pe_iload_n (j := 1) (by decide +kernel) rfl ?_
      refine pe_bipushv (n := 102) (v := 102) (by decide +kernel) (by decide +kernel) ?_
      refine pz_add (by decide +kernel) rfl kz_102 (by omega) (by omega) (fun z6 hz6 => ?_)
      refine pe_iconstv (n := 4) (v := 4) (by decide +kernel) (by decide +kernel) ?_
      refine pe_iload_n (j := 2) (by decide +kernel) rfl ?_
      refine pz_mul (by decide +kernel) kz_4 rfl (by omega) (by omega) (fun z7 hz7 => ?_)
      refine pz_add (by decide +kernel) hz6 hz7 (by omega) (by omega) (fun z8 hz8 => ?_)
      clear hz6 hz7
      refine pe_iload_n (j := 3) (by decide +kernel) rfl ?_
      refine pz_add (by decide +kernel) hz8 kz_3 (by omega) (by omega) (fun z9 hz9 => ?_)
      clear hz8
      refine mz_ld148 (by decide +kernel) hc hI hz9 (by omega) (by omega) (fun v10 ev10 pv10 => ?_)
      clear pv10
      clear hz9
      refine pe_iret (by decide +kernel) rfl rfl ⟨rfl, rfl, ?_⟩
      show pmE pg X pg_tyl pg_cl (d + 1) 288 33 [.ref 147, .int x1, .int x2, .int x3, .int x4] [.int v10, .int z5, .int x3] (md wc f A) _
      refine pw_mul (by decide +kernel) (fun z11 => ?_)
      refine pw_add (by decide +kernel) (fun z12 => ?_)
      refine pe_istore_n (j := 3) (ls' := [.ref 147, .int x1, .int x2, .int z12, .int x4]) (by decide +kernel) (Nat.le_of_ble_eq_true rfl) rfl ?_
      refine pz_iinc (j := 4) (n := 1) (by decide +kernel) rfl rfl (by decide +kernel) (by omega) (by omega) (fun z13 hz13 => ?_)
      show pmE pg X pg_tyl pg_cl (d + 1) 288 39 [.ref 147, .int x1, .int x2, .int z12, .int z13] [] (md wc f A) _
      refine pe_goto (off := (-34)) (t := 5) (by decide +kernel) (by decide) rfl ?_
      exact ih z12 z13 (by omega) (by omega)
set_option maxRecDepth 100000 in
set_option maxHeartbeats 8000000 in
theorem MM_288 {X : pm_X} {d : Nat} {wc : pm_W} {f : Nat → Int32} {A : Nat → List Int32} {x1 x2 : Int32} (hc : wc.length = 147) (hI : MI f A) (gx1 : (610 ≤ x1.toInt ∧ x1.toInt ≤ 742 ∧ (x1.toInt - 610) % 132 = 0)) : pmE pg X pg_tyl pg_cl (d + 1) 288 0 (pm_ent (pm_max pg 288) [.ref 147, .int x1, .int x2]) [] (md wc f A) (fun q => ∃ (r : Int32), q = (some (.int r), md wc f A, 0, 0) ∧ ((True ∧ True))) := by
  show pmE pg X pg_tyl pg_cl (d + 1) 288 0 [.ref 147, .int x1, .int x2, pm_dead, pm_dead] [] (md wc f A) _
  refine pe_iconstv (n := 0) (v := 0) (by decide +kernel) (by decide +kernel) ?_
  refine pe_istore_n (j := 3) (ls' := [.ref 147, .int x1, .int x2, .int 0, pm_dead]) (by decide +kernel) (Nat.le_of_ble_eq_true rfl) rfl ?_
  refine pe_iconstv (n := 0) (v := 0) (by decide +kernel) (by decide +kernel) ?_
  refine pe_istore (j := 4) (ls' := [.ref 147, .int x1, .int x2, .int 0, .int 0]) (by decide +kernel) (Nat.le_of_ble_eq_true rfl) rfl ?_
  refine ML_288_5 hc hI (by omega) (fun y1 y2 gy2 => ?_) 8 0 0 (by decide +kernel) (by decide +kernel)
  refine pe_iload_n (j := 3) (by decide +kernel) rfl ?_
  exact pe_iret (by decide +kernel) rfl rfl ⟨y1, rfl, ⟨trivial, trivial⟩⟩
set_option maxRecDepth 100000 in
set_option maxHeartbeats 8000000 in
theorem ML_289_4 {X : pm_X} {d : Nat} {wc : pm_W} {Q : pm_R → Prop} {f : Nat → Int32} {A : Nat → List Int32} {x0 : Int32} (hc : wc.length = 147) (hI : MI f A) (k_21_0 : ∀ (y1 : Int32) (y2 : Int32), (y2.toInt ≤ 0) → pmE pg X pg_tyl pg_cl (d) 289 21 [.int x0, .int y1, .int y2] [] (md wc f A) Q) : ∀ (m : Nat) (x1 : Int32) (x2 : Int32), x2.toInt - (-2147483648) < (m : Int) → pmE pg X pg_tyl pg_cl (d) 289 4 [.int x0, .int x1, .int x2] [] (md wc f A) Q := by
  intro m
  induction m with
  | zero =>
    intro x1 x2 hm
    exfalso
    have l0 := zi_lo x2
    have u0 := zi_hi x2
    omega
  | succ m ih =>
    intro x1 x2 hm
    refine pe_iload_n (j := 2) (by decide +kernel) rfl ?_
    have lw2 := zi_lo x2
    have uw2 := zi_hi x2
    refine pz_if_le (off := 16) (t := 21) (by decide +kernel) (by decide) rfl rfl (fun h1 => ?_) (fun h1 => ?_)
    · skip
      exact k_21_0 x1 x2 (by omega)
    · skip
      refine pe_iload_n (j := 1) (by decide +kernel) rfl ?_
      refine pe_iload_n (j := 2) (by decide +kernel) rfl ?_
      refine pe_iconstv (n := 1) (v := 1) (by decide +kernel) (by decide +kernel) ?_
      refine pz_and1 (by decide +kernel) (fun z3 hz3 => ?_)
      refine pw_add (by decide +kernel) (fun z4 => ?_)
      refine pe_istore_n (j := 1) (ls' := [.int x0, .int z4, .int x2]) (by decide +kernel) (Nat.le_of_ble_eq_true rfl) rfl ?_
      refine pe_iload_n (j := 2) (by decide +kernel) rfl ?_
      refine pe_iconstv (n := 1) (v := 1) (by decide +kernel) (by decide +kernel) ?_
      refine pz_shrl (n := 1) (p := 2) (by decide +kernel) rfl (by decide +kernel) (by decide +kernel) (by omega) (fun z5 hz5 => ?_)
      refine pe_istore_n (j := 2) (ls' := [.int x0, .int z4, .int z5]) (by decide +kernel) (Nat.le_of_ble_eq_true rfl) rfl ?_
      refine pe_goto (off := (-14)) (t := 4) (by decide +kernel) (by decide) rfl ?_
      exact ih z4 z5 (by omega)
set_option maxRecDepth 100000 in
set_option maxHeartbeats 8000000 in
theorem MM_289 {X : pm_X} {d : Nat} {wc : pm_W} {f : Nat → Int32} {A : Nat → List Int32} {x0 : Int32} (hc : wc.length = 147) (hI : MI f A) : pmE pg X pg_tyl pg_cl (d) 289 0 (pm_ent (pm_max pg 289) [.int x0]) [] (md wc f A) (fun q => ∃ (r : Int32), q = (some (.int r), md wc f A, 0, 0) ∧ ((True ∧ True))) := by
  show pmE pg X pg_tyl pg_cl (d) 289 0 [.int x0, pm_dead, pm_dead] [] (md wc f A) _
  refine pe_iconstv (n := 0) (v := 0) (by decide +kernel) (by decide +kernel) ?_
  refine pe_istore_n (j := 1) (ls' := [.int x0, .int 0, pm_dead]) (by decide +kernel) (Nat.le_of_ble_eq_true rfl) rfl ?_
  refine pe_iload_n (j := 0) (by decide +kernel) rfl ?_
  refine pe_istore_n (j := 2) (ls' := [.int x0, .int 0, .int x0]) (by decide +kernel) (Nat.le_of_ble_eq_true rfl) rfl ?_
  refine ML_289_4 hc hI (fun y1 y2 gy2 => ?_) 4294967296 0 x0 (by have l0 := zi_lo x0; have u0 := zi_hi x0; omega)
  refine pe_iload_n (j := 1) (by decide +kernel) rfl ?_
  exact pe_iret (by decide +kernel) rfl rfl ⟨y1, rfl, ⟨trivial, trivial⟩⟩
set_option maxRecDepth 100000 in
set_option maxHeartbeats 8000000 in
theorem ML_297_17 {X : pm_X} {d : Nat} {wc : pm_W} {Q : pm_R → Prop} {f : Nat → Int32} {A : Nat → List Int32} {x1 x3 : Int32} (hc : wc.length = 147) (hI : MI f A) (gx1 : (610 ≤ x1.toInt ∧ x1.toInt ≤ 742 ∧ (x1.toInt - 610) % 132 = 0)) (gx3 : (0 ≤ x3.toInt ∧ x3.toInt ≤ 8)) (k_65_0 : ∀ (y2 : Int32) (y4 : Int32), (0 ≤ y4.toInt ∧ y4.toInt ≤ 9) → pmE pg X pg_tyl pg_cl (d + 1) 297 65 [.ref 147, .int x1, .int y2, .int x3, .int y4] [] (md wc f A) Q) : ∀ (m : Nat) (x2 : Int32) (x4 : Int32), (0 ≤ x4.toInt ∧ x4.toInt ≤ 9) → 9 - x4.toInt < (m : Int) → pmE pg X pg_tyl pg_cl (d + 1) 297 17 [.ref 147, .int x1, .int x2, .int x3, .int x4] [] (md wc f A) Q := by
  intro m
  induction m with
  | zero =>
    intro x2 x4 gx4 hm
    exfalso
    have l0 := zi_lo x4
    have u0 := zi_hi x4
    omega
  | succ m ih =>
    intro x2 x4 gx4 hm
    refine pe_iload (j := 4) (by decide +kernel) rfl ?_
    refine pe_aload_n (j := 0) (by decide +kernel) rfl ?_
    refine pe_get (j := 7) (ci := 12) (n := 0) (by decide +kernel) (by decide +kernel) (md_o hc) rfl ?_
    refine pe_iload_n (j := 1) (by decide +kernel) rfl ?_
    refine mz_ld148 (by decide +kernel) hc hI rfl (by omega) (by omega) (fun v1 ev1 pv1 => ?_)
    have rv1 : 0 ≤ v1.toInt ∧ v1.toInt ≤ 9 := MT_people pv1 (by omega)
    clear pv1
    refine pz_icmp_ge (off := 40) (t := 65) (by decide +kernel) (by decide) rfl rfl rfl (fun h2 => ?_) (fun h2 => ?_)
    · skip
      exact k_65_0 x2 x4 (by omega)
    · skip
      refine pe_iload_n (j := 2) (by decide +kernel) rfl ?_
      refine pe_iload_n (j := 3) (by decide +kernel) rfl ?_
      refine pe_iload (j := 4) (by decide +kernel) rfl ?_
      refine pz_icmp_eq (off := 24) (t := 56) (by decide +kernel) (by decide) rfl rfl rfl (fun h3 => ?_) (fun h3 => ?_)
      · skip
        refine pe_iconstv (n := 0) (v := 0) (by decide +kernel) (by decide +kernel) ?_
        have lw5 := zi_lo x2
        have uw5 := zi_hi x2
        refine pz_add (by decide +kernel) rfl kz_0 (by omega) (by omega) (fun z4 hz4 => ?_)
        refine pe_istore_n (j := 2) (ls' := [.ref 147, .int x1, .int z4, .int x3, .int x4]) (by decide +kernel) (Nat.le_of_ble_eq_true rfl) rfl ?_
        refine pz_iinc (j := 4) (n := 1) (by decide +kernel) rfl rfl (by decide +kernel) (by omega) (by omega) (fun z6 hz6 => ?_)
        show pmE pg X pg_tyl pg_cl (d + 1) 297 62 [.ref 147, .int x1, .int z4, .int x3, .int z6] [] (md wc f A) _
        refine pe_goto (off := (-45)) (t := 17) (by decide +kernel) (by decide) rfl ?_
        exact ih z4 z6 (by omega) (by omega)
      · skip
        refine pe_aload_n (j := 0) (by decide +kernel) rfl ?_
        refine pe_iload_n (j := 3) (by decide +kernel) rfl ?_
        refine pe_iload (j := 4) (by decide +kernel) rfl ?_
        refine pi_V (j := 349) (mj := 296) (by decide +kernel) (cll_V (args := [.int x4, .int x3]) (n := 2) (by decide +kernel) rfl rfl (md_o hc) (by decide +kernel) (Nat.le_of_ble_eq_true rfl) (Nat.le_of_ble_eq_true rfl)) ?_
        show pmE pg X pg_tyl pg_cl (d) 296 0 [.ref 147, .int x3, .int x4] [] (md wc f A) _
        refine pe_aload_n (j := 0) (by decide +kernel) rfl ?_
        refine pe_get (j := 50) (ci := 12) (n := 26) (by decide +kernel) (by decide +kernel) (md_o hc) rfl ?_
        refine pe_bipushv (n := 10) (v := 10) (by decide +kernel) (by decide +kernel) ?_
        refine pe_iload_n (j := 1) (by decide +kernel) rfl ?_
        refine pz_mul (by decide +kernel) kz_10 rfl (by omega) (by omega) (fun z7 hz7 => ?_)
        refine pe_iload_n (j := 2) (by decide +kernel) rfl ?_
        refine pz_add (by decide +kernel) hz7 rfl (by omega) (by omega) (fun z8 hz8 => ?_)
        clear hz7
        refine mz_ld161 (by decide +kernel) hc hI hz8 (by omega) (by omega) (fun v9 ev9 => ?_)
        clear hz8
        refine pe_aload_n (j := 0) (by decide +kernel) rfl ?_
        refine pe_get (j := 47) (ci := 12) (n := 25) (by decide +kernel) (by decide +kernel) (md_o hc) rfl ?_
        refine pe_bipushv (n := 10) (v := 10) (by decide +kernel) (by decide +kernel) ?_
        refine pe_iload_n (j := 1) (by decide +kernel) rfl ?_
        refine pz_mul (by decide +kernel) kz_10 rfl (by omega) (by omega) (fun z10 hz10 => ?_)
        refine pe_iload_n (j := 2) (by decide +kernel) rfl ?_
        refine pz_add (by decide +kernel) hz10 rfl (by omega) (by omega) (fun z11 hz11 => ?_)
        clear hz10
        refine mz_ld160 (by decide +kernel) hc hI hz11 (by omega) (by omega) (fun v12 ev12 => ?_)
        clear hz11
        refine pw_sub (by decide +kernel) (fun z13 => ?_)
        refine pe_aload_n (j := 0) (by decide +kernel) rfl ?_
        refine pe_get (j := 53) (ci := 12) (n := 27) (by decide +kernel) (by decide +kernel) (md_o hc) rfl ?_
        refine pe_bipushv (n := 10) (v := 10) (by decide +kernel) (by decide +kernel) ?_
        refine pe_iload_n (j := 1) (by decide +kernel) rfl ?_
        refine pz_mul (by decide +kernel) kz_10 rfl (by omega) (by omega) (fun z14 hz14 => ?_)
        refine pe_iload_n (j := 2) (by decide +kernel) rfl ?_
        refine pz_add (by decide +kernel) hz14 rfl (by omega) (by omega) (fun z15 hz15 => ?_)
        clear hz14
        refine mz_ld162 (by decide +kernel) hc hI hz15 (by omega) (by omega) (fun v16 ev16 => ?_)
        clear hz15
        refine pw_sub (by decide +kernel) (fun z17 => ?_)
        refine pe_iret (by decide +kernel) rfl rfl ⟨rfl, rfl, ?_⟩
        show pmE pg X pg_tyl pg_cl (d + 1) 297 42 [.ref 147, .int x1, .int x2, .int x3, .int x4] [.int z17, .int x2] (md wc f A) _
        have lw19 := zi_lo z17
        have uw19 := zi_hi z17
        refine pz_if_ge (off := 14) (t := 56) (by decide +kernel) (by decide) rfl rfl (fun h18 => ?_) (fun h18 => ?_)
        · skip
          refine pe_iconstv (n := 0) (v := 0) (by decide +kernel) (by decide +kernel) ?_
          have lw21 := zi_lo x2
          have uw21 := zi_hi x2
          refine pz_add (by decide +kernel) rfl kz_0 (by omega) (by omega) (fun z20 hz20 => ?_)
          refine pe_istore_n (j := 2) (ls' := [.ref 147, .int x1, .int z20, .int x3, .int x4]) (by decide +kernel) (Nat.le_of_ble_eq_true rfl) rfl ?_
          refine pz_iinc (j := 4) (n := 1) (by decide +kernel) rfl rfl (by decide +kernel) (by omega) (by omega) (fun z22 hz22 => ?_)
          show pmE pg X pg_tyl pg_cl (d + 1) 297 62 [.ref 147, .int x1, .int z20, .int x3, .int z22] [] (md wc f A) _
          refine pe_goto (off := (-45)) (t := 17) (by decide +kernel) (by decide) rfl ?_
          exact ih z20 z22 (by omega) (by omega)
        · skip
          refine pe_aload_n (j := 0) (by decide +kernel) rfl ?_
          refine pe_iload_n (j := 3) (by decide +kernel) rfl ?_
          refine pe_iload (j := 4) (by decide +kernel) rfl ?_
          refine pi_V (j := 349) (mj := 296) (by decide +kernel) (cll_V (args := [.int x4, .int x3]) (n := 2) (by decide +kernel) rfl rfl (md_o hc) (by decide +kernel) (Nat.le_of_ble_eq_true rfl) (Nat.le_of_ble_eq_true rfl)) ?_
          show pmE pg X pg_tyl pg_cl (d) 296 0 [.ref 147, .int x3, .int x4] [] (md wc f A) _
          refine pe_aload_n (j := 0) (by decide +kernel) rfl ?_
          refine pe_get (j := 50) (ci := 12) (n := 26) (by decide +kernel) (by decide +kernel) (md_o hc) rfl ?_
          refine pe_bipushv (n := 10) (v := 10) (by decide +kernel) (by decide +kernel) ?_
          refine pe_iload_n (j := 1) (by decide +kernel) rfl ?_
          refine pz_mul (by decide +kernel) kz_10 rfl (by omega) (by omega) (fun z23 hz23 => ?_)
          refine pe_iload_n (j := 2) (by decide +kernel) rfl ?_
          refine pz_add (by decide +kernel) hz23 rfl (by omega) (by omega) (fun z24 hz24 => ?_)
          clear hz23
          refine mz_ld161 (by decide +kernel) hc hI hz24 (by omega) (by omega) (fun v25 ev25 => ?_)
          rw [ev25.trans ev9.symm]
          clear ev25 v25
          clear hz24
          refine pe_aload_n (j := 0) (by decide +kernel) rfl ?_
          refine pe_get (j := 47) (ci := 12) (n := 25) (by decide +kernel) (by decide +kernel) (md_o hc) rfl ?_
          refine pe_bipushv (n := 10) (v := 10) (by decide +kernel) (by decide +kernel) ?_
          refine pe_iload_n (j := 1) (by decide +kernel) rfl ?_
          refine pz_mul (by decide +kernel) kz_10 rfl (by omega) (by omega) (fun z26 hz26 => ?_)
          refine pe_iload_n (j := 2) (by decide +kernel) rfl ?_
          refine pz_add (by decide +kernel) hz26 rfl (by omega) (by omega) (fun z27 hz27 => ?_)
          clear hz26
          refine mz_ld160 (by decide +kernel) hc hI hz27 (by omega) (by omega) (fun v28 ev28 => ?_)
          rw [ev28.trans ev12.symm]
          clear ev28 v28
          clear hz27
          refine pw_sub (by decide +kernel) (fun z29 => ?_)
          refine pe_aload_n (j := 0) (by decide +kernel) rfl ?_
          refine pe_get (j := 53) (ci := 12) (n := 27) (by decide +kernel) (by decide +kernel) (md_o hc) rfl ?_
          refine pe_bipushv (n := 10) (v := 10) (by decide +kernel) (by decide +kernel) ?_
          refine pe_iload_n (j := 1) (by decide +kernel) rfl ?_
          refine pz_mul (by decide +kernel) kz_10 rfl (by omega) (by omega) (fun z30 hz30 => ?_)
          refine pe_iload_n (j := 2) (by decide +kernel) rfl ?_
          refine pz_add (by decide +kernel) hz30 rfl (by omega) (by omega) (fun z31 hz31 => ?_)
          clear hz30
          refine mz_ld162 (by decide +kernel) hc hI hz31 (by omega) (by omega) (fun v32 ev32 => ?_)
          rw [ev32.trans ev16.symm]
          clear ev32 v32
          clear hz31
          refine pw_sub (by decide +kernel) (fun z33 => ?_)
          refine pe_iret (by decide +kernel) rfl rfl ⟨rfl, rfl, ?_⟩
          show pmE pg X pg_tyl pg_cl (d + 1) 297 52 [.ref 147, .int x1, .int x2, .int x3, .int x4] [.int z33, .int x2] (md wc f A) _
          refine pw_neg (by decide +kernel) (fun z34 => ?_)
          refine pe_goto (off := 4) (t := 57) (by decide +kernel) (by decide) rfl ?_
          refine pw_add (by decide +kernel) (fun z35 => ?_)
          refine pe_istore_n (j := 2) (ls' := [.ref 147, .int x1, .int z35, .int x3, .int x4]) (by decide +kernel) (Nat.le_of_ble_eq_true rfl) rfl ?_
          refine pz_iinc (j := 4) (n := 1) (by decide +kernel) rfl rfl (by decide +kernel) (by omega) (by omega) (fun z36 hz36 => ?_)
          show pmE pg X pg_tyl pg_cl (d + 1) 297 62 [.ref 147, .int x1, .int z35, .int x3, .int z36] [] (md wc f A) _
          refine pe_goto (off := (-45)) (t := 17) (by decide +kernel) (by decide) rfl ?_
          exact ih z35 z36 (by omega) (by omega)
set_option maxRecDepth 100000 in
set_option maxHeartbeats 8000000 in
theorem ML_297_4 {X : pm_X} {d : Nat} {wc : pm_W} {Q : pm_R → Prop} {f : Nat → Int32} {A : Nat → List Int32} {x1 : Int32} (hc : wc.length = 147) (hI : MI f A) (gx1 : (610 ≤ x1.toInt ∧ x1.toInt ≤ 742 ∧ (x1.toInt - 610) % 132 = 0)) (k_71_0 : ∀ (y2 : Int32) (y3 : Int32) (v4 : Value), (0 ≤ y3.toInt ∧ y3.toInt ≤ 9) → pmE pg X pg_tyl pg_cl (d + 1) 297 71 [.ref 147, .int x1, .int y2, .int y3, v4] [] (md wc f A) Q) : ∀ (m : Nat) (x2 : Int32) (x3 : Int32) (u4 : Value), (0 ≤ x3.toInt ∧ x3.toInt ≤ 9) → 9 - x3.toInt < (m : Int) → pmE pg X pg_tyl pg_cl (d + 1) 297 4 [.ref 147, .int x1, .int x2, .int x3, u4] [] (md wc f A) Q := by
  intro m
  induction m with
  | zero =>
    intro x2 x3 u4 gx3 hm
    exfalso
    have l0 := zi_lo x3
    have u0 := zi_hi x3
    omega
  | succ m ih =>
    intro x2 x3 u4 gx3 hm
    refine pe_iload_n (j := 3) (by decide +kernel) rfl ?_
    refine pe_aload_n (j := 0) (by decide +kernel) rfl ?_
    refine pe_get (j := 7) (ci := 12) (n := 0) (by decide +kernel) (by decide +kernel) (md_o hc) rfl ?_
    refine pe_iload_n (j := 1) (by decide +kernel) rfl ?_
    refine mz_ld148 (by decide +kernel) hc hI rfl (by omega) (by omega) (fun v1 ev1 pv1 => ?_)
    have rv1 : 0 ≤ v1.toInt ∧ v1.toInt ≤ 9 := MT_people pv1 (by omega)
    clear pv1
    refine pz_icmp_ge (off := 60) (t := 71) (by decide +kernel) (by decide) rfl rfl rfl (fun h2 => ?_) (fun h2 => ?_)
    · skip
      exact k_71_0 x2 x3 (u4) (by omega)
    · skip
      refine pe_iconstv (n := 0) (v := 0) (by decide +kernel) (by decide +kernel) ?_
      refine pe_istore (j := 4) (ls' := [.ref 147, .int x1, .int x2, .int x3, .int 0]) (by decide +kernel) (Nat.le_of_ble_eq_true rfl) rfl ?_
      refine ML_297_17 hc hI (by omega) (by omega) (fun y3 y4 gy4 => ?_) 10 x2 0 (by decide +kernel) (by decide +kernel)
      refine pz_iinc (j := 3) (n := 1) (by decide +kernel) rfl rfl (by decide +kernel) (by omega) (by omega) (fun z5 hz5 => ?_)
      show pmE pg X pg_tyl pg_cl (d + 1) 297 68 [.ref 147, .int x1, .int y3, .int z5, .int y4] [] (md wc f A) _
      refine pe_goto (off := (-64)) (t := 4) (by decide +kernel) (by decide) rfl ?_
      exact ih y3 z5 (.int y4) (by omega) (by omega)
set_option maxRecDepth 100000 in
set_option maxHeartbeats 8000000 in
theorem MM_297 {X : pm_X} {d : Nat} {wc : pm_W} {f : Nat → Int32} {A : Nat → List Int32} {x1 : Int32} (hc : wc.length = 147) (hI : MI f A) (gx1 : (610 ≤ x1.toInt ∧ x1.toInt ≤ 742 ∧ (x1.toInt - 610) % 132 = 0)) : pmE pg X pg_tyl pg_cl (d + 1) 297 0 (pm_ent (pm_max pg 297) [.ref 147, .int x1]) [] (md wc f A) (fun q => ∃ (r : Int32), q = (some (.int r), md wc f A, 0, 0) ∧ ((True ∧ True))) := by
  show pmE pg X pg_tyl pg_cl (d + 1) 297 0 [.ref 147, .int x1, pm_dead, pm_dead, pm_dead] [] (md wc f A) _
  refine pe_iconstv (n := 0) (v := 0) (by decide +kernel) (by decide +kernel) ?_
  refine pe_istore_n (j := 2) (ls' := [.ref 147, .int x1, .int 0, pm_dead, pm_dead]) (by decide +kernel) (Nat.le_of_ble_eq_true rfl) rfl ?_
  refine pe_iconstv (n := 0) (v := 0) (by decide +kernel) (by decide +kernel) ?_
  refine pe_istore_n (j := 3) (ls' := [.ref 147, .int x1, .int 0, .int 0, pm_dead]) (by decide +kernel) (Nat.le_of_ble_eq_true rfl) rfl ?_
  refine ML_297_4 hc hI (by omega) (fun y1 y2 u3 gy2 => ?_) 10 0 0 (pm_dead) (by decide +kernel) (by decide +kernel)
  refine pe_iload_n (j := 2) (by decide +kernel) rfl ?_
  exact pe_iret (by decide +kernel) rfl rfl ⟨y1, rfl, ⟨trivial, trivial⟩⟩