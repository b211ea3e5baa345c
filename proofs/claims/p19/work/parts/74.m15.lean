section
set_option maxRecDepth 100000 in
set_option maxHeartbeats 8000000 in
theorem ML_310_30 {X : pm_X} {d : Nat} {wc : pm_W} {Q : pm_R → Prop} {f : Nat → Int32} {A : Nat → List Int32} {x1 x2 x3 x4 : Int32} (hc : wc.length = 147) (hI : MI f A) (gx1 : (0 ≤ x1.toInt ∧ x1.toInt ≤ 1)) (gx2 : ((-1) ≤ x2.toInt ∧ x2.toInt ≤ 2)) (gx3 : (0 ≤ x3.toInt ∧ x3.toInt ≤ 30)) (gx4 : (0 ≤ x4.toInt ∧ x4.toInt ≤ 999)) (k_84_0 : ∀ (y5 : Int32) (y6 : Int32), (0 ≤ y6.toInt ∧ y6.toInt ≤ 30) → pmE pg X pg_tyl pg_cl (d + 7) 310 84 [.ref 147, .int x1, .int x2, .int x3, .int x4, .int y5, .int y6] [] (md wc f A) Q) : ∀ (m : Nat) (x5 : Int32) (x6 : Int32), (0 ≤ x6.toInt ∧ x6.toInt ≤ 30) → 30 - x6.toInt < (m : Int) → pmE pg X pg_tyl pg_cl (d + 7) 310 30 [.ref 147, .int x1, .int x2, .int x3, .int x4, .int x5, .int x6] [] (md wc f A) Q := by
  intro m
  induction m with
  | zero =>
    intro x5 x6 gx6 hm
    exfalso
    have l0 := zi_lo x6
    have u0 := zi_hi x6
    omega
  | succ m ih =>
    intro x5 x6 gx6 hm
    refine pe_iload (j := 6) (by decide +kernel) rfl ?_
    refine pe_aload_n (j := 0) (by decide +kernel) rfl ?_
    refine pe_get (j := 175) (ci := 12) (n := 14) (by decide +kernel) (by decide +kernel) (md_o hc) rfl ?_
    have hr_14_f := hI.1 14
    simp only [MF] at hr_14_f
    refine pz_icmp_ge (off := 48) (t := 84) (by decide +kernel) (by decide) rfl rfl rfl (fun h1 => ?_) (fun h1 => ?_)
    · skip
      exact k_84_0 x5 x6 (by omega)
    · skip
      refine pe_iload (j := 5) (by decide +kernel) rfl ?_
      refine pe_aload_n (j := 0) (by decide +kernel) rfl ?_
      refine pe_iload (j := 6) (by decide +kernel) rfl ?_
      refine pi_V (j := 190) (mj := 236) (by decide +kernel) (cll_V (args := [.int x6]) (n := 1) (by decide +kernel) rfl rfl (md_o hc) (by decide +kernel) (Nat.le_of_ble_eq_true rfl) (Nat.le_of_ble_eq_true rfl)) ?_
      show pmE pg X pg_tyl pg_cl (d + 6) 236 0 [.ref 147, .int x6] [] (md wc f A) _
      refine pe_aload_n (j := 0) (by decide +kernel) rfl ?_
      refine pe_get (j := 26) (ci := 12) (n := 13) (by decide +kernel) (by decide +kernel) (md_o hc) rfl ?_
      refine pe_bipushv (n := 10) (v := 10) (by decide +kernel) (by decide +kernel) ?_
      refine pe_iload_n (j := 1) (by decide +kernel) rfl ?_
      refine pz_mul (by decide +kernel) kz_10 rfl (by omega) (by omega) (fun z2 hz2 => ?_)
      refine pe_iconstv (n := 3) (v := 3) (by decide +kernel) (by decide +kernel) ?_
      refine pz_add (by decide +kernel) hz2 kz_3 (by omega) (by omega) (fun z3 hz3 => ?_)
      clear hz2
      refine mz_ld153 (by decide +kernel) hc hI hz3 (by omega) (by omega) (fun v4 ev4 pv4 => ?_)
      clear hz3
      refine pe_iconstv (n := 1) (v := 1) (by decide +kernel) (by decide +kernel) ?_
      have lw6 := zi_lo v4
      have uw6 := zi_hi v4
      refine pz_icmp_ne (off := 7) (t := 19) (by decide +kernel) (by decide) rfl rfl kz_1 (fun h5 => ?_) (fun h5 => ?_)
      · skip
        refine pe_iconstv (n := 0) (v := 0) (by decide +kernel) (by decide +kernel) ?_
        refine pe_iret (by decide +kernel) rfl rfl ⟨rfl, rfl, ?_⟩
        show pmE pg X pg_tyl pg_cl (d + 7) 310 47 [.ref 147, .int x1, .int x2, .int x3, .int x4, .int x5, .int x6] [.int 0, .int x5] (md wc f A) _
        refine pz_if_eq (off := 27) (t := 74) (by decide +kernel) (by decide) rfl kz_0 (fun h7 => ?_) (fun h7 => by omega)
        refine pe_iconstv (n := 0) (v := 0) (by decide +kernel) (by decide +kernel) ?_
        refine pw_or (by decide +kernel) (fun z8 => ?_)
        refine pe_istore (j := 5) (ls' := [.ref 147, .int x1, .int x2, .int x3, .int x4, .int z8, .int x6]) (by decide +kernel) (Nat.le_of_ble_eq_true rfl) rfl ?_
        refine pz_iinc (j := 6) (n := 1) (by decide +kernel) rfl rfl (by decide +kernel) (by omega) (by omega) (fun z9 hz9 => ?_)
        show pmE pg X pg_tyl pg_cl (d + 7) 310 81 [.ref 147, .int x1, .int x2, .int x3, .int x4, .int z8, .int z9] [] (md wc f A) _
        refine pe_goto (off := (-51)) (t := 30) (by decide +kernel) (by decide) rfl ?_
        exact ih z8 z9 (by omega) (by omega)
      · skip
        refine pe_iconstv (n := 1) (v := 1) (by decide +kernel) (by decide +kernel) ?_
        refine pe_goto (off := 4) (t := 20) (by decide +kernel) (by decide) rfl ?_
        refine pe_iret (by decide +kernel) rfl rfl ⟨rfl, rfl, ?_⟩
        show pmE pg X pg_tyl pg_cl (d + 7) 310 47 [.ref 147, .int x1, .int x2, .int x3, .int x4, .int x5, .int x6] [.int 1, .int x5] (md wc f A) _
        refine pz_if_eq (off := 27) (t := 74) (by decide +kernel) (by decide) rfl kz_1 (fun h10 => by omega) (fun h10 => ?_)
        refine pe_aload_n (j := 0) (by decide +kernel) rfl ?_
        refine pe_get (j := 26) (ci := 12) (n := 13) (by decide +kernel) (by decide +kernel) (md_o hc) rfl ?_
        refine pe_bipushv (n := 10) (v := 10) (by decide +kernel) (by decide +kernel) ?_
        refine pe_iload (j := 6) (by decide +kernel) rfl ?_
        refine pz_mul (by decide +kernel) kz_10 rfl (by omega) (by omega) (fun z11 hz11 => ?_)
        refine pe_iconstv (n := 2) (v := 2) (by decide +kernel) (by decide +kernel) ?_
        refine pz_add (by decide +kernel) hz11 kz_2 (by omega) (by omega) (fun z12 hz12 => ?_)
        clear hz11
        refine mz_ld153 (by decide +kernel) hc hI hz12 (by omega) (by omega) (fun v13 ev13 pv13 => ?_)
        clear hz12
        refine pe_iload (j := 4) (by decide +kernel) rfl ?_
        have lw15 := zi_lo v13
        have uw15 := zi_hi v13
        refine pz_icmp_ge (off := 10) (t := 74) (by decide +kernel) (by decide) rfl rfl rfl (fun h14 => ?_) (fun h14 => ?_)
        · skip
          refine pe_iconstv (n := 0) (v := 0) (by decide +kernel) (by decide +kernel) ?_
          refine pw_or (by decide +kernel) (fun z16 => ?_)
          refine pe_istore (j := 5) (ls' := [.ref 147, .int x1, .int x2, .int x3, .int x4, .int z16, .int x6]) (by decide +kernel) (Nat.le_of_ble_eq_true rfl) rfl ?_
          refine pz_iinc (j := 6) (n := 1) (by decide +kernel) rfl rfl (by decide +kernel) (by omega) (by omega) (fun z17 hz17 => ?_)
          show pmE pg X pg_tyl pg_cl (d + 7) 310 81 [.ref 147, .int x1, .int x2, .int x3, .int x4, .int z16, .int z17] [] (md wc f A) _
          refine pe_goto (off := (-51)) (t := 30) (by decide +kernel) (by decide) rfl ?_
          exact ih z16 z17 (by omega) (by omega)
        · skip
          refine pe_iconstv (n := 1) (v := 1) (by decide +kernel) (by decide +kernel) ?_
          refine pe_iload (j := 6) (by decide +kernel) rfl ?_
          refine pw_shl (by decide +kernel) (fun z18 => ?_)
          refine pe_goto (off := 4) (t := 75) (by decide +kernel) (by decide) rfl ?_
          refine pw_or (by decide +kernel) (fun z19 => ?_)
          refine pe_istore (j := 5) (ls' := [.ref 147, .int x1, .int x2, .int x3, .int x4, .int z19, .int x6]) (by decide +kernel) (Nat.le_of_ble_eq_true rfl) rfl ?_
          refine pz_iinc (j := 6) (n := 1) (by decide +kernel) rfl rfl (by decide +kernel) (by omega) (by omega) (fun z20 hz20 => ?_)
          show pmE pg X pg_tyl pg_cl (d + 7) 310 81 [.ref 147, .int x1, .int x2, .int x3, .int x4, .int z19, .int z20] [] (md wc f A) _
          refine pe_goto (off := (-51)) (t := 30) (by decide +kernel) (by decide) rfl ?_
          exact ih z19 z20 (by omega) (by omega)
set_option maxRecDepth 100000 in
set_option maxHeartbeats 8000000 in
theorem MM_310 {X : pm_X} {d : Nat} {wc : pm_W} {f : Nat → Int32} {A : Nat → List Int32} {x1 x2 x3 x4 : Int32} (hc : wc.length = 147) (hI : MI f A) : pmE pg X pg_tyl pg_cl (d + 7) 310 0 (pm_ent (pm_max pg 310) [.ref 147, .int x1, .int x2, .int x3, .int x4]) [] (md wc f A) (fun q => ∃ (f' : Nat → Int32) (A' : Nat → List Int32) (r : Int32), q = (some (.int r), md wc f' A', 0, 0) ∧ MI f' A' ∧ (∀ k : Nat, k ≠ 14 → k ≠ 15 → k ≠ 16 → f' k = f k) ∧ (∀ k : Nat, k ≠ 152 → k ≠ 153 → A' k = A k) ∧ ((True ∧ True))) := by
  show pmE pg X pg_tyl pg_cl (d + 7) 310 0 [.ref 147, .int x1, .int x2, .int x3, .int x4, pm_dead, pm_dead] [] (md wc f A) _
  refine pe_iload (j := 4) (by decide +kernel) rfl ?_
  refine pe_iconstv (n := 0) (v := 0) (by decide +kernel) (by decide +kernel) ?_
  refine pe_sipushv (n := 999) (v := 999) (by decide +kernel) (by decide +kernel) ?_
  refine pi_S (j := 119) (mj := 199) (by decide +kernel) (by decide +kernel) rfl ?_
  show pmE pg X pg_tyl pg_cl (d + 6) 199 0 [.int x4, .int 0, .int 999] [] (md wc f A) _
  refine pe_iload_n (j := 0) (by decide +kernel) rfl ?_
  refine pe_iload_n (j := 1) (by decide +kernel) rfl ?_
  have lw2 := zi_lo x4
  have uw2 := zi_hi x4
  refine pz_icmp_lt (off := 12) (t := 14) (by decide +kernel) (by decide) rfl rfl kz_0 (fun h1 => ?_) (fun h1 => ?_)
  · skip
    refine pe_iconstv (n := 0) (v := 0) (by decide +kernel) (by decide +kernel) ?_
    refine pe_iret (by decide +kernel) rfl rfl ⟨rfl, rfl, ?_⟩
    show pmE pg X pg_tyl pg_cl (d + 7) 310 9 [.ref 147, .int x1, .int x2, .int x3, .int x4, pm_dead, pm_dead] [.int 0] (md wc f A) _
    refine pz_if_eq (off := 13) (t := 22) (by decide +kernel) (by decide) rfl kz_0 (fun h3 => ?_) (fun h3 => by omega)
    refine pe_iconstv (n := (-1)) (v := (-1)) (by decide +kernel) (by decide +kernel) ?_
    exact pe_iret (by decide +kernel) rfl rfl ⟨f, A, (-1), rfl, hI, (fun k n14 n15 n16 => rfl), (fun k n152 n153 => rfl), ⟨trivial, trivial⟩⟩
  · skip
    refine pe_iload_n (j := 0) (by decide +kernel) rfl ?_
    refine pe_iload_n (j := 2) (by decide +kernel) rfl ?_
    refine pz_icmp_gt (off := 7) (t := 14) (by decide +kernel) (by decide) rfl rfl kz_999 (fun h4 => ?_) (fun h4 => ?_)
    · skip
      refine pe_iconstv (n := 0) (v := 0) (by decide +kernel) (by decide +kernel) ?_
      refine pe_iret (by decide +kernel) rfl rfl ⟨rfl, rfl, ?_⟩
      show pmE pg X pg_tyl pg_cl (d + 7) 310 9 [.ref 147, .int x1, .int x2, .int x3, .int x4, pm_dead, pm_dead] [.int 0] (md wc f A) _
      refine pz_if_eq (off := 13) (t := 22) (by decide +kernel) (by decide) rfl kz_0 (fun h5 => ?_) (fun h5 => by omega)
      refine pe_iconstv (n := (-1)) (v := (-1)) (by decide +kernel) (by decide +kernel) ?_
      exact pe_iret (by decide +kernel) rfl rfl ⟨f, A, (-1), rfl, hI, (fun k n14 n15 n16 => rfl), (fun k n152 n153 => rfl), ⟨trivial, trivial⟩⟩
    · skip
      refine pe_iconstv (n := 1) (v := 1) (by decide +kernel) (by decide +kernel) ?_
      refine pe_goto (off := 4) (t := 15) (by decide +kernel) (by decide) rfl ?_
      refine pe_iret (by decide +kernel) rfl rfl ⟨rfl, rfl, ?_⟩
      show pmE pg X pg_tyl pg_cl (d + 7) 310 9 [.ref 147, .int x1, .int x2, .int x3, .int x4, pm_dead, pm_dead] [.int 1] (md wc f A) _
      refine pz_if_eq (off := 13) (t := 22) (by decide +kernel) (by decide) rfl kz_1 (fun h6 => by omega) (fun h6 => ?_)
      refine pe_aload_n (j := 0) (by decide +kernel) rfl ?_
      refine pe_iload_n (j := 1) (by decide +kernel) rfl ?_
      refine pe_iload_n (j := 2) (by decide +kernel) rfl ?_
      refine pe_iload_n (j := 3) (by decide +kernel) rfl ?_
      refine pz_callV (j := 232) (mj := 246) (by decide +kernel) (cll_V (args := [.int x3, .int x2, .int x1]) (n := 3) (by decide +kernel) rfl rfl (md_o hc) (by decide +kernel) (Nat.le_of_ble_eq_true rfl) (Nat.le_of_ble_eq_true rfl)) (MM_246 hc hI) (fun q7a q7b q7c q7d hqq7 => ?_)
      obtain ⟨f8, A9, rq7, eq7, hIq7, hGq7, hFq7, kq7⟩ := hqq7
      cases eq7
      refine ⟨rfl, rfl, ?_⟩
      rcases kq7 with kq7 | kq7
      · skip
        obtain ⟨erq7, kq7⟩ := kq7
        subst erq7
        show pmE pg X pg_tyl pg_cl (d + 7) 310 19 [.ref 147, .int x1, .int x2, .int x3, .int x4, pm_dead, pm_dead] [.int 0] (md wc f8 A9) _
        refine pz_if_ne (off := 5) (t := 24) (by decide +kernel) (by decide) rfl kz_0 (fun h10 => by omega) (fun h10 => ?_)
        refine pe_iconstv (n := (-1)) (v := (-1)) (by decide +kernel) (by decide +kernel) ?_
        exact pe_iret (by decide +kernel) rfl rfl ⟨f8, A9, (-1), rfl, hIq7, (fun k n14 n15 n16 => (hGq7 k n14 n15 n16)), (fun k n152 n153 => (hFq7 k n152 n153)), ⟨trivial, trivial⟩⟩
      · skip
        obtain ⟨erq7, kq7⟩ := kq7
        subst erq7
        show pmE pg X pg_tyl pg_cl (d + 7) 310 19 [.ref 147, .int x1, .int x2, .int x3, .int x4, pm_dead, pm_dead] [.int 1] (md wc f8 A9) _
        refine pz_if_ne (off := 5) (t := 24) (by decide +kernel) (by decide) rfl kz_1 (fun h11 => ?_) (fun h11 => by omega)
        refine pe_iconstv (n := 0) (v := 0) (by decide +kernel) (by decide +kernel) ?_
        refine pe_istore (j := 5) (ls' := [.ref 147, .int x1, .int x2, .int x3, .int x4, .int 0, pm_dead]) (by decide +kernel) (Nat.le_of_ble_eq_true rfl) rfl ?_
        refine pe_iconstv (n := 0) (v := 0) (by decide +kernel) (by decide +kernel) ?_
        refine pe_istore (j := 6) (ls' := [.ref 147, .int x1, .int x2, .int x3, .int x4, .int 0, .int 0]) (by decide +kernel) (Nat.le_of_ble_eq_true rfl) rfl ?_
        refine ML_310_30 hc hIq7 (by omega) (by omega) (by omega) (by omega) (fun y12 y13 gy13 => ?_) 31 0 0 (by decide +kernel) (by decide +kernel)
        refine pe_iload (j := 5) (by decide +kernel) rfl ?_
        exact pe_iret (by decide +kernel) rfl rfl ⟨f8, A9, y12, rfl, hIq7, (fun k n14 n15 n16 => (hGq7 k n14 n15 n16)), (fun k n152 n153 => (hFq7 k n152 n153)), ⟨trivial, trivial⟩⟩
set_option maxRecDepth 100000 in
set_option maxHeartbeats 8000000 in
theorem ML_298_42 {X : pm_X} {d : Nat} {wc : pm_W} {Q : pm_R → Prop} {f : Nat → Int32} {A : Nat → List Int32} {x1 x2 x3 x4 x5 x6 x8 : Int32} (hc : wc.length = 147) (hI : MI f A) (gx1 : (0 ≤ x1.toInt ∧ x1.toInt ≤ 1)) (gx2 : ((-1) ≤ x2.toInt ∧ x2.toInt ≤ 2)) (gx3 : (0 ≤ x3.toInt ∧ x3.toInt ≤ 30)) (gx4 : (0 ≤ x4.toInt ∧ x4.toInt ≤ 8)) (gx8 : (0 ≤ x8.toInt ∧ x8.toInt ≤ 29)) (k_93_0 : ∀ (y7 : Int32) (y9 : Int32), (0 ≤ y9.toInt ∧ y9.toInt ≤ 6) → pmE pg X pg_tyl pg_cl (d + 8) 298 93 [.ref 147, .int x1, .int x2, .int x3, .int x4, .int x5, .int x6, .int y7, .int x8, .int y9] [] (md wc f A) Q) : ∀ (m : Nat) (x7 : Int32) (x9 : Int32), (0 ≤ x9.toInt ∧ x9.toInt ≤ 6) → 6 - x9.toInt < (m : Int) → pmE pg X pg_tyl pg_cl (d + 8) 298 42 [.ref 147, .int x1, .int x2, .int x3, .int x4, .int x5, .int x6, .int x7, .int x8, .int x9] [] (md wc f A) Q := by
  intro m
  induction m with
  | zero =>
    intro x7 x9 gx9 hm
    exfalso
    have l0 := zi_lo x9
    have u0 := zi_hi x9
    omega
  | succ m ih =>
    intro x7 x9 gx9 hm
    refine pe_iload (j := 9) (by decide +kernel) rfl ?_
    refine pe_aload_n (j := 0) (by decide +kernel) rfl ?_
    refine pe_get (j := 26) (ci := 12) (n := 13) (by decide +kernel) (by decide +kernel) (md_o hc) rfl ?_
    refine pe_bipushv (n := 10) (v := 10) (by decide +kernel) (by decide +kernel) ?_
    refine pe_iload (j := 8) (by decide +kernel) rfl ?_
    refine pz_mul (by decide +kernel) kz_10 rfl (by omega) (by omega) (fun z1 hz1 => ?_)
    refine mz_ld153 (by decide +kernel) hc hI hz1 (by omega) (by omega) (fun v2 ev2 pv2 => ?_)
    have rv2 : 0 ≤ v2.toInt ∧ v2.toInt ≤ 6 := by have p := pv2; simp only [MP_rings] at p; omega
    clear hz1
    refine pz_icmp_ge (off := 39) (t := 93) (by decide +kernel) (by decide) rfl rfl rfl (fun h3 => ?_) (fun h3 => ?_)
    · skip
      exact k_93_0 x7 x9 (by omega)
    · skip
      refine pe_iload (j := 7) (by decide +kernel) rfl ?_
      refine pe_iload (j := 6) (by decide +kernel) rfl ?_
      refine pe_iload (j := 8) (by decide +kernel) rfl ?_
      refine pw_shr (by decide +kernel) (fun z4 => ?_)
      refine pe_iconstv (n := 1) (v := 1) (by decide +kernel) (by decide +kernel) ?_
      refine pz_and1 (by decide +kernel) (fun z5 hz5 => ?_)
      refine pe_iconstv (n := 1) (v := 1) (by decide +kernel) (by decide +kernel) ?_
      refine pz_icmp_ne (off := 16) (t := 83) (by decide +kernel) (by decide) rfl rfl kz_1 (fun h6 => ?_) (fun h6 => ?_)
      · skip
        refine pe_iconstv (n := 0) (v := 0) (by decide +kernel) (by decide +kernel) ?_
        refine pw_or (by decide +kernel) (fun z7 => ?_)
        refine pe_istore (j := 7) (ls' := [.ref 147, .int x1, .int x2, .int x3, .int x4, .int x5, .int x6, .int z7, .int x8, .int x9]) (by decide +kernel) (Nat.le_of_ble_eq_true rfl) rfl ?_
        refine pz_iinc (j := 9) (n := 1) (by decide +kernel) rfl rfl (by decide +kernel) (by omega) (by omega) (fun z8 hz8 => ?_)
        show pmE pg X pg_tyl pg_cl (d + 8) 298 90 [.ref 147, .int x1, .int x2, .int x3, .int x4, .int x5, .int x6, .int z7, .int x8, .int z8] [] (md wc f A) _
        refine pe_goto (off := (-48)) (t := 42) (by decide +kernel) (by decide) rfl ?_
        exact ih z7 z8 (by omega) (by omega)
      · skip
        refine pe_iconstv (n := 1) (v := 1) (by decide +kernel) (by decide +kernel) ?_
        refine pe_aload_n (j := 0) (by decide +kernel) rfl ?_
        refine pe_iload (j := 8) (by decide +kernel) rfl ?_
        refine pe_iload (j := 9) (by decide +kernel) rfl ?_
        refine pi_V (j := 184) (mj := 234) (by decide +kernel) (cll_V (args := [.int x9, .int x8]) (n := 2) (by decide +kernel) rfl rfl (md_o hc) (by decide +kernel) (Nat.le_of_ble_eq_true rfl) (Nat.le_of_ble_eq_true rfl)) ?_
        show pmE pg X pg_tyl pg_cl (d + 7) 234 0 [.ref 147, .int x8, .int x9] [] (md wc f A) _
        refine pe_aload_n (j := 0) (by decide +kernel) rfl ?_
        refine pe_get (j := 26) (ci := 12) (n := 13) (by decide +kernel) (by decide +kernel) (md_o hc) rfl ?_
        refine pe_bipushv (n := 10) (v := 10) (by decide +kernel) (by decide +kernel) ?_
        refine pe_iload_n (j := 1) (by decide +kernel) rfl ?_
        refine pz_mul (by decide +kernel) kz_10 rfl (by omega) (by omega) (fun z9 hz9 => ?_)
        refine pe_iconstv (n := 4) (v := 4) (by decide +kernel) (by decide +kernel) ?_
        refine pz_add (by decide +kernel) hz9 kz_4 (by omega) (by omega) (fun z10 hz10 => ?_)
        clear hz9
        refine pe_iload_n (j := 2) (by decide +kernel) rfl ?_
        refine pz_add (by decide +kernel) hz10 rfl (by omega) (by omega) (fun z11 hz11 => ?_)
        clear hz10
        refine mz_ld153 (by decide +kernel) hc hI hz11 (by omega) (by omega) (fun v12 ev12 pv12 => ?_)
        have rv12 : 0 ≤ v12.toInt ∧ v12.toInt ≤ 8 := by have p := pv12; simp only [MP_rings] at p; omega
        clear hz11
        refine pe_iret (by decide +kernel) rfl rfl ⟨rfl, rfl, ?_⟩
        show pmE pg X pg_tyl pg_cl (d + 8) 298 79 [.ref 147, .int x1, .int x2, .int x3, .int x4, .int x5, .int x6, .int x7, .int x8, .int x9] [.int v12, .int 1, .int x7] (md wc f A) _
        refine pz_shl1 (by decide +kernel) rfl (by omega) (by omega) (fun z13 hz13 => ?_)
        refine pe_goto (off := 4) (t := 84) (by decide +kernel) (by decide) rfl ?_
        refine pw_or (by decide +kernel) (fun z14 => ?_)
        refine pe_istore (j := 7) (ls' := [.ref 147, .int x1, .int x2, .int x3, .int x4, .int x5, .int x6, .int z14, .int x8, .int x9]) (by decide +kernel) (Nat.le_of_ble_eq_true rfl) rfl ?_
        refine pz_iinc (j := 9) (n := 1) (by decide +kernel) rfl rfl (by decide +kernel) (by omega) (by omega) (fun z15 hz15 => ?_)
        show pmE pg X pg_tyl pg_cl (d + 8) 298 90 [.ref 147, .int x1, .int x2, .int x3, .int x4, .int x5, .int x6, .int z14, .int x8, .int z15] [] (md wc f A) _
        refine pe_goto (off := (-48)) (t := 42) (by decide +kernel) (by decide) rfl ?_
        exact ih z14 z15 (by omega) (by omega)
set_option maxRecDepth 100000 in
set_option maxHeartbeats 8000000 in
theorem ML_298_30 {X : pm_X} {d : Nat} {wc : pm_W} {Q : pm_R → Prop} {f : Nat → Int32} {A : Nat → List Int32} {x1 x2 x3 x4 x5 x6 : Int32} (hc : wc.length = 147) (hI : MI f A) (gx1 : (0 ≤ x1.toInt ∧ x1.toInt ≤ 1)) (gx2 : ((-1) ≤ x2.toInt ∧ x2.toInt ≤ 2)) (gx3 : (0 ≤ x3.toInt ∧ x3.toInt ≤ 30)) (gx4 : (0 ≤ x4.toInt ∧ x4.toInt ≤ 8)) (k_99_0 : ∀ (y7 : Int32) (y8 : Int32) (v9 : Value), (0 ≤ y8.toInt ∧ y8.toInt ≤ 30) → pmE pg X pg_tyl pg_cl (d + 8) 298 99 [.ref 147, .int x1, .int x2, .int x3, .int x4, .int x5, .int x6, .int y7, .int y8, v9] [] (md wc f A) Q) : ∀ (m : Nat) (x7 : Int32) (x8 : Int32) (u9 : Value), (0 ≤ x8.toInt ∧ x8.toInt ≤ 30) → 30 - x8.toInt < (m : Int) → pmE pg X pg_tyl pg_cl (d + 8) 298 30 [.ref 147, .int x1, .int x2, .int x3, .int x4, .int x5, .int x6, .int x7, .int x8, u9] [] (md wc f A) Q := by
  intro m
  induction m with
  | zero =>
    intro x7 x8 u9 gx8 hm
    exfalso
    have l0 := zi_lo x8
    have u0 := zi_hi x8
    omega
  | succ m ih =>
    intro x7 x8 u9 gx8 hm
    refine pe_iload (j := 8) (by decide +kernel) rfl ?_
    refine pe_aload_n (j := 0) (by decide +kernel) rfl ?_
    refine pe_get (j := 175) (ci := 12) (n := 14) (by decide +kernel) (by decide +kernel) (md_o hc) rfl ?_
    have hr_14_f := hI.1 14
    simp only [MF] at hr_14_f
    refine pz_icmp_ge (off := 63) (t := 99) (by decide +kernel) (by decide) rfl rfl rfl (fun h1 => ?_) (fun h1 => ?_)
    · skip
      exact k_99_0 x7 x8 (u9) (by omega)
    · skip
      refine pe_iconstv (n := 0) (v := 0) (by decide +kernel) (by decide +kernel) ?_
      refine pe_istore (j := 9) (ls' := [.ref 147, .int x1, .int x2, .int x3, .int x4, .int x5, .int x6, .int x7, .int x8, .int 0]) (by decide +kernel) (Nat.le_of_ble_eq_true rfl) rfl ?_
      refine ML_298_42 hc hI (by omega) (by omega) (by omega) (by omega) (by omega) (fun y2 y3 gy3 => ?_) 7 x7 0 (by decide +kernel) (by decide +kernel)
      refine pz_iinc (j := 8) (n := 1) (by decide +kernel) rfl rfl (by decide +kernel) (by omega) (by omega) (fun z4 hz4 => ?_)
      show pmE pg X pg_tyl pg_cl (d + 8) 298 96 [.ref 147, .int x1, .int x2, .int x3, .int x4, .int x5, .int x6, .int y2, .int z4, .int y3] [] (md wc f A) _
      refine pe_goto (off := (-66)) (t := 30) (by decide +kernel) (by decide) rfl ?_
      exact ih y2 z4 (.int y3) (by omega) (by omega)
set_option maxRecDepth 100000 in
set_option maxHeartbeats 8000000 in
theorem MM_298 {X : pm_X} {d : Nat} {wc : pm_W} {f : Nat → Int32} {A : Nat → List Int32} {x1 x2 x3 x4 x5 : Int32} (hc : wc.length = 147) (hI : MI f A) : pmE pg X pg_tyl pg_cl (d + 8) 298 0 (pm_ent (pm_max pg 298) [.ref 147, .int x1, .int x2, .int x3, .int x4, .int x5]) [] (md wc f A) (fun q => ∃ (f' : Nat → Int32) (A' : Nat → List Int32) (r : Int32), q = (some (.int r), md wc f' A', 0, 0) ∧ MI f' A' ∧ (∀ k : Nat, k ≠ 14 → k ≠ 15 → k ≠ 16 → f' k = f k) ∧ (∀ k : Nat, k ≠ 152 → k ≠ 153 → A' k = A k) ∧ ((True ∧ True))) := by
  show pmE pg X pg_tyl pg_cl (d + 8) 298 0 [.ref 147, .int x1, .int x2, .int x3, .int x4, .int x5, pm_dead, pm_dead, pm_dead, pm_dead] [] (md wc f A) _
  refine pe_aload_n (j := 0) (by decide +kernel) rfl ?_
  refine pe_iload_n (j := 1) (by decide +kernel) rfl ?_
  refine pe_iload_n (j := 2) (by decide +kernel) rfl ?_
  refine pe_iload_n (j := 3) (by decide +kernel) rfl ?_
  refine pe_iload (j := 4) (by decide +kernel) rfl ?_
  refine pe_iload (j := 4) (by decide +kernel) rfl ?_
  refine pz_callV (j := 235) (mj := 245) (by decide +kernel) (cll_V (args := [.int x4, .int x4, .int x3, .int x2, .int x1]) (n := 5) (by decide +kernel) rfl rfl (md_o hc) (by decide +kernel) (Nat.le_of_ble_eq_true rfl) (Nat.le_of_ble_eq_true rfl)) (MM_245 hc hI) (fun q1a q1b q1c q1d hqq1 => ?_)
  obtain ⟨f2, A3, rq1, eq1, hIq1, hGq1, hFq1, kq1⟩ := hqq1
  cases eq1
  refine ⟨rfl, rfl, ?_⟩
  rcases kq1 with kq1 | kq1
  · skip
    obtain ⟨erq1, kq1⟩ := kq1
    subst erq1
    show pmE pg X pg_tyl pg_cl (d + 8) 298 11 [.ref 147, .int x1, .int x2, .int x3, .int x4, .int x5, pm_dead, pm_dead, pm_dead, pm_dead] [.int 0] (md wc f2 A3) _
    refine pz_if_ne (off := 5) (t := 16) (by decide +kernel) (by decide) rfl kz_0 (fun h4 => by omega) (fun h4 => ?_)
    refine pe_iconstv (n := (-1)) (v := (-1)) (by decide +kernel) (by decide +kernel) ?_
    exact pe_iret (by decide +kernel) rfl rfl ⟨f2, A3, (-1), rfl, hIq1, (fun k n14 n15 n16 => (hGq1 k n14 n15 n16)), (fun k n152 n153 => (hFq1 k n152 n153)), ⟨trivial, trivial⟩⟩
  · skip
    obtain ⟨erq1, kq1⟩ := kq1
    subst erq1
    show pmE pg X pg_tyl pg_cl (d + 8) 298 11 [.ref 147, .int x1, .int x2, .int x3, .int x4, .int x5, pm_dead, pm_dead, pm_dead, pm_dead] [.int 1] (md wc f2 A3) _
    refine pz_if_ne (off := 5) (t := 16) (by decide +kernel) (by decide) rfl kz_1 (fun h5 => ?_) (fun h5 => by omega)
    refine pe_aload_n (j := 0) (by decide +kernel) rfl ?_
    refine pe_iload (j := 4) (by decide +kernel) rfl ?_
    refine pz_callV (j := 361) (mj := 299) (by decide +kernel) (cll_V (args := [.int x4]) (n := 1) (by decide +kernel) rfl rfl (md_o hc) (by decide +kernel) (Nat.le_of_ble_eq_true rfl) (Nat.le_of_ble_eq_true rfl)) (MM_299 hc hIq1) (fun q6a q6b q6c q6d hqq6 => ?_)
    obtain ⟨rq6, eq6, kq6⟩ := hqq6
    cases eq6
    refine ⟨rfl, rfl, ?_⟩
    show pmE pg X pg_tyl pg_cl (d + 8) 298 22 [.ref 147, .int x1, .int x2, .int x3, .int x4, .int x5, pm_dead, pm_dead, pm_dead, pm_dead] [.int rq6] (md wc f2 A3) _
    refine pe_istore (j := 6) (ls' := [.ref 147, .int x1, .int x2, .int x3, .int x4, .int x5, .int rq6, pm_dead, pm_dead, pm_dead]) (by decide +kernel) (Nat.le_of_ble_eq_true rfl) rfl ?_
    refine pe_iconstv (n := 0) (v := 0) (by decide +kernel) (by decide +kernel) ?_
    refine pe_istore (j := 7) (ls' := [.ref 147, .int x1, .int x2, .int x3, .int x4, .int x5, .int rq6, .int 0, pm_dead, pm_dead]) (by decide +kernel) (Nat.le_of_ble_eq_true rfl) rfl ?_
    refine pe_iconstv (n := 0) (v := 0) (by decide +kernel) (by decide +kernel) ?_
    refine pe_istore (j := 8) (ls' := [.ref 147, .int x1, .int x2, .int x3, .int x4, .int x5, .int rq6, .int 0, .int 0, pm_dead]) (by decide +kernel) (Nat.le_of_ble_eq_true rfl) rfl ?_
    refine ML_298_30 hc hIq1 (by omega) (by omega) (by omega) (by omega) (fun y7 y8 u9 gy8 => ?_) 31 0 0 (pm_dead) (by decide +kernel) (by decide +kernel)
    refine pe_iload (j := 5) (by decide +kernel) rfl ?_
    have lw11 := zi_lo x5
    have uw11 := zi_hi x5
    refine pz_if_eq (off := 15) (t := 116) (by decide +kernel) (by decide) rfl rfl (fun h10 => ?_) (fun h10 => ?_)
    · skip
      refine pe_iload (j := 6) (by decide +kernel) rfl ?_
      exact pe_iret (by decide +kernel) rfl rfl ⟨f2, A3, rq6, rfl, hIq1, (fun k n14 n15 n16 => (hGq1 k n14 n15 n16)), (fun k n152 n153 => (hFq1 k n152 n153)), ⟨trivial, trivial⟩⟩
    · skip
      refine pe_iload (j := 7) (by decide +kernel) rfl ?_
      refine pe_iconstv (n := 1) (v := 1) (by decide +kernel) (by decide +kernel) ?_
      refine pe_iload (j := 4) (by decide +kernel) rfl ?_
      refine pz_shl1 (by decide +kernel) rfl (by omega) (by omega) (fun z12 hz12 => ?_)
      refine pe_iconstv (n := (-1)) (v := (-1)) (by decide +kernel) (by decide +kernel) ?_
      refine pw_xor (by decide +kernel) (fun z13 => ?_)
      refine pw_and (by decide +kernel) (fun z14 => ?_)
      refine pe_goto (off := 5) (t := 118) (by decide +kernel) (by decide) rfl ?_
      exact pe_iret (by decide +kernel) rfl rfl ⟨f2, A3, z14, rfl, hIq1, (fun k n14 n15 n16 => (hGq1 k n14 n15 n16)), (fun k n152 n153 => (hFq1 k n152 n153)), ⟨trivial, trivial⟩⟩
set_option maxRecDepth 100000 in
set_option maxHeartbeats 8000000 in
theorem ML_300_92 {X : pm_X} {d : Nat} {wc : pm_W} {Q : pm_R → Prop} {f : Nat → Int32} {A : Nat → List Int32} {x1 x2 x3 x4 x5 x6 x7 x8 x9 x11 : Int32} (hc : wc.length = 147) (hI : MI f A) (gx1 : (0 ≤ x1.toInt ∧ x1.toInt ≤ 1)) (gx2 : ((-1) ≤ x2.toInt ∧ x2.toInt ≤ 2)) (gx3 : (0 ≤ x3.toInt ∧ x3.toInt ≤ 30)) (gx4 : (0 ≤ x4.toInt ∧ x4.toInt ≤ 8)) (gx5 : (0 ≤ x5.toInt ∧ x5.toInt ≤ 8)) (gx6 : (1 ≤ x6.toInt ∧ x6.toInt ≤ 99)) (gx7 : (610 ≤ x7.toInt ∧ x7.toInt ≤ 742 ∧ (x7.toInt - 610) % 132 = 0)) (gx9 : (1 ≤ x9.toInt ∧ x9.toInt ≤ 9)) (gx11 : (0 ≤ x11.toInt ∧ x11.toInt ≤ 8)) (k_170_0 : ∀ (y10 : Int32) (y12 : Int32), (0 ≤ y12.toInt ∧ y12.toInt ≤ 9) → pmE pg X pg_tyl pg_cl (d + 8) 300 170 [.ref 147, .int x1, .int x2, .int x3, .int x4, .int x5, .int x6, .int x7, .int x8, .int x9, .int y10, .int x11, .int y12] [] (md wc f A) Q) : ∀ (m : Nat) (x10 : Int32) (x12 : Int32), (0 ≤ x12.toInt ∧ x12.toInt ≤ 9) → 9 - x12.toInt < (m : Int) → pmE pg X pg_tyl pg_cl (d + 8) 300 92 [.ref 147, .int x1, .int x2, .int x3, .int x4, .int x5, .int x6, .int x7, .int x8, .int x9, .int x10, .int x11, .int x12] [] (md wc f A) Q := by
  intro m
  induction m with
  | zero =>
    intro x10 x12 gx12 hm
    exfalso
    have l0 := zi_lo x12
    have u0 := zi_hi x12
    omega
  | succ m ih =>
    intro x10 x12 gx12 hm
    refine pe_iload (j := 12) (by decide +kernel) rfl ?_
    refine pe_aload_n (j := 0) (by decide +kernel) rfl ?_
    refine pe_get (j := 7) (ci := 12) (n := 0) (by decide +kernel) (by decide +kernel) (md_o hc) rfl ?_
    refine pe_iload (j := 7) (by decide +kernel) rfl ?_
    refine mz_ld148 (by decide +kernel) hc hI rfl (by omega) (by omega) (fun v1 ev1 pv1 => ?_)
    have rv1 : 0 ≤ v1.toInt ∧ v1.toInt ≤ 9 := MT_people pv1 (by omega)
    clear pv1
    refine pz_icmp_ge (off := 69) (t := 170) (by decide +kernel) (by decide) rfl rfl rfl (fun h2 => ?_) (fun h2 => ?_)
    · skip
      exact k_170_0 x10 x12 (by omega)
    · skip
      refine pe_iload (j := 10) (by decide +kernel) rfl ?_
      refine pe_iload (j := 8) (by decide +kernel) rfl ?_
      refine pe_iload (j := 11) (by decide +kernel) rfl ?_
      refine pw_shr (by decide +kernel) (fun z3 => ?_)
      refine pe_iconstv (n := 1) (v := 1) (by decide +kernel) (by decide +kernel) ?_
      refine pz_and1 (by decide +kernel) (fun z4 hz4 => ?_)
      refine pe_iconstv (n := 1) (v := 1) (by decide +kernel) (by decide +kernel) ?_
      refine pz_icmp_ne (off := 46) (t := 160) (by decide +kernel) (by decide) rfl rfl kz_1 (fun h5 => ?_) (fun h5 => ?_)
      · skip
        refine pe_iconstv (n := 0) (v := 0) (by decide +kernel) (by decide +kernel) ?_
        refine pw_or (by decide +kernel) (fun z6 => ?_)
        refine pe_istore (j := 10) (ls' := [.ref 147, .int x1, .int x2, .int x3, .int x4, .int x5, .int x6, .int x7, .int x8, .int x9, .int z6, .int x11, .int x12]) (by decide +kernel) (Nat.le_of_ble_eq_true rfl) rfl ?_
        refine pz_iinc (j := 12) (n := 1) (by decide +kernel) rfl rfl (by decide +kernel) (by omega) (by omega) (fun z7 hz7 => ?_)
        show pmE pg X pg_tyl pg_cl (d + 8) 300 167 [.ref 147, .int x1, .int x2, .int x3, .int x4, .int x5, .int x6, .int x7, .int x8, .int x9, .int z6, .int x11, .int z7] [] (md wc f A) _
        refine pe_goto (off := (-75)) (t := 92) (by decide +kernel) (by decide) rfl ?_
        exact ih z6 z7 (by omega) (by omega)
      · skip
        refine pe_iload (j := 11) (by decide +kernel) rfl ?_
        refine pe_iload (j := 12) (by decide +kernel) rfl ?_
        refine pz_icmp_eq (off := 39) (t := 160) (by decide +kernel) (by decide) rfl rfl rfl (fun h8 => ?_) (fun h8 => ?_)
        · skip
          refine pe_iconstv (n := 0) (v := 0) (by decide +kernel) (by decide +kernel) ?_
          refine pw_or (by decide +kernel) (fun z9 => ?_)
          refine pe_istore (j := 10) (ls' := [.ref 147, .int x1, .int x2, .int x3, .int x4, .int x5, .int x6, .int x7, .int x8, .int x9, .int z9, .int x11, .int x12]) (by decide +kernel) (Nat.le_of_ble_eq_true rfl) rfl ?_
          refine pz_iinc (j := 12) (n := 1) (by decide +kernel) rfl rfl (by decide +kernel) (by omega) (by omega) (fun z10 hz10 => ?_)
          show pmE pg X pg_tyl pg_cl (d + 8) 300 167 [.ref 147, .int x1, .int x2, .int x3, .int x4, .int x5, .int x6, .int x7, .int x8, .int x9, .int z9, .int x11, .int z10] [] (md wc f A) _
          refine pe_goto (off := (-75)) (t := 92) (by decide +kernel) (by decide) rfl ?_
          exact ih z9 z10 (by omega) (by omega)
        · skip
          refine pe_iload (j := 11) (by decide +kernel) rfl ?_
          refine pe_iload (j := 4) (by decide +kernel) rfl ?_
          refine pz_icmp_ne (off := 10) (t := 138) (by decide +kernel) (by decide) rfl rfl rfl (fun h11 => ?_) (fun h11 => ?_)
          · skip
            refine pe_aload_n (j := 0) (by decide +kernel) rfl ?_
            refine pe_iload (j := 7) (by decide +kernel) rfl ?_
            refine pe_iload (j := 11) (by decide +kernel) rfl ?_
            refine pe_iload (j := 12) (by decide +kernel) rfl ?_
            refine pz_callV (j := 199) (mj := 231) (by decide +kernel) (cll_V (args := [.int x12, .int x11, .int x7]) (n := 3) (by decide +kernel) rfl rfl (md_o hc) (by decide +kernel) (Nat.le_of_ble_eq_true rfl) (Nat.le_of_ble_eq_true rfl)) (MM_231 hc hI (by omega) (by omega) (by omega)) (fun q12a q12b q12c q12d hqq12 => ?_)
            obtain ⟨rq12, eq12, kq12⟩ := hqq12
            cases eq12
            refine ⟨rfl, rfl, ?_⟩
            show pmE pg X pg_tyl pg_cl (d + 8) 300 148 [.ref 147, .int x1, .int x2, .int x3, .int x4, .int x5, .int x6, .int x7, .int x8, .int x9, .int x10, .int x11, .int x12] [.int rq12, .int x10] (md wc f A) _
            refine pe_iload (j := 6) (by decide +kernel) rfl ?_
            have lw14 := zi_lo rq12
            have uw14 := zi_hi rq12
            refine pz_icmp_lt (off := 10) (t := 160) (by decide +kernel) (by decide) rfl rfl rfl (fun h13 => ?_) (fun h13 => ?_)
            · skip
              refine pe_iconstv (n := 0) (v := 0) (by decide +kernel) (by decide +kernel) ?_
              refine pw_or (by decide +kernel) (fun z15 => ?_)
              refine pe_istore (j := 10) (ls' := [.ref 147, .int x1, .int x2, .int x3, .int x4, .int x5, .int x6, .int x7, .int x8, .int x9, .int z15, .int x11, .int x12]) (by decide +kernel) (Nat.le_of_ble_eq_true rfl) rfl ?_
              refine pz_iinc (j := 12) (n := 1) (by decide +kernel) rfl rfl (by decide +kernel) (by omega) (by omega) (fun z16 hz16 => ?_)
              show pmE pg X pg_tyl pg_cl (d + 8) 300 167 [.ref 147, .int x1, .int x2, .int x3, .int x4, .int x5, .int x6, .int x7, .int x8, .int x9, .int z15, .int x11, .int z16] [] (md wc f A) _
              refine pe_goto (off := (-75)) (t := 92) (by decide +kernel) (by decide) rfl ?_
              exact ih z15 z16 (by omega) (by omega)
            · skip
              refine pe_iconstv (n := 1) (v := 1) (by decide +kernel) (by decide +kernel) ?_
              refine pe_iload (j := 12) (by decide +kernel) rfl ?_
              refine pz_shl1 (by decide +kernel) rfl (by omega) (by omega) (fun z17 hz17 => ?_)
              refine pe_goto (off := 4) (t := 161) (by decide +kernel) (by decide) rfl ?_
              refine pw_or (by decide +kernel) (fun z18 => ?_)
              refine pe_istore (j := 10) (ls' := [.ref 147, .int x1, .int x2, .int x3, .int x4, .int x5, .int x6, .int x7, .int x8, .int x9, .int z18, .int x11, .int x12]) (by decide +kernel) (Nat.le_of_ble_eq_true rfl) rfl ?_
              refine pz_iinc (j := 12) (n := 1) (by decide +kernel) rfl rfl (by decide +kernel) (by omega) (by omega) (fun z19 hz19 => ?_)
              show pmE pg X pg_tyl pg_cl (d + 8) 300 167 [.ref 147, .int x1, .int x2, .int x3, .int x4, .int x5, .int x6, .int x7, .int x8, .int x9, .int z18, .int x11, .int z19] [] (md wc f A) _
              refine pe_goto (off := (-75)) (t := 92) (by decide +kernel) (by decide) rfl ?_
              exact ih z18 z19 (by omega) (by omega)
          · skip
            refine pe_iload (j := 12) (by decide +kernel) rfl ?_
            refine pe_iload (j := 5) (by decide +kernel) rfl ?_
            refine pz_icmp_eq (off := 25) (t := 160) (by decide +kernel) (by decide) rfl rfl rfl (fun h20 => ?_) (fun h20 => ?_)
            · skip
              refine pe_iconstv (n := 0) (v := 0) (by decide +kernel) (by decide +kernel) ?_
              refine pw_or (by decide +kernel) (fun z21 => ?_)
              refine pe_istore (j := 10) (ls' := [.ref 147, .int x1, .int x2, .int x3, .int x4, .int x5, .int x6, .int x7, .int x8, .int x9, .int z21, .int x11, .int x12]) (by decide +kernel) (Nat.le_of_ble_eq_true rfl) rfl ?_
              refine pz_iinc (j := 12) (n := 1) (by decide +kernel) rfl rfl (by decide +kernel) (by omega) (by omega) (fun z22 hz22 => ?_)
              show pmE pg X pg_tyl pg_cl (d + 8) 300 167 [.ref 147, .int x1, .int x2, .int x3, .int x4, .int x5, .int x6, .int x7, .int x8, .int x9, .int z21, .int x11, .int z22] [] (md wc f A) _
              refine pe_goto (off := (-75)) (t := 92) (by decide +kernel) (by decide) rfl ?_
              exact ih z21 z22 (by omega) (by omega)
            · skip
              refine pe_aload_n (j := 0) (by decide +kernel) rfl ?_
              refine pe_iload (j := 7) (by decide +kernel) rfl ?_
              refine pe_iload (j := 11) (by decide +kernel) rfl ?_
              refine pe_iload (j := 12) (by decide +kernel) rfl ?_
              refine pz_callV (j := 199) (mj := 231) (by decide +kernel) (cll_V (args := [.int x12, .int x11, .int x7]) (n := 3) (by decide +kernel) rfl rfl (md_o hc) (by decide +kernel) (Nat.le_of_ble_eq_true rfl) (Nat.le_of_ble_eq_true rfl)) (MM_231 hc hI (by omega) (by omega) (by omega)) (fun q23a q23b q23c q23d hqq23 => ?_)
              obtain ⟨rq23, eq23, kq23⟩ := hqq23
              cases eq23
              refine ⟨rfl, rfl, ?_⟩
              show pmE pg X pg_tyl pg_cl (d + 8) 300 148 [.ref 147, .int x1, .int x2, .int x3, .int x4, .int x5, .int x6, .int x7, .int x8, .int x9, .int x10, .int x11, .int x12] [.int rq23, .int x10] (md wc f A) _
              refine pe_iload (j := 6) (by decide +kernel) rfl ?_
              have lw25 := zi_lo rq23
              have uw25 := zi_hi rq23
              refine pz_icmp_lt (off := 10) (t := 160) (by decide +kernel) (by decide) rfl rfl rfl (fun h24 => ?_) (fun h24 => ?_)
              · skip
                refine pe_iconstv (n := 0) (v := 0) (by decide +kernel) (by decide +kernel) ?_
                refine pw_or (by decide +kernel) (fun z26 => ?_)
                refine pe_istore (j := 10) (ls' := [.ref 147, .int x1, .int x2, .int x3, .int x4, .int x5, .int x6, .int x7, .int x8, .int x9, .int z26, .int x11, .int x12]) (by decide +kernel) (Nat.le_of_ble_eq_true rfl) rfl ?_
                refine pz_iinc (j := 12) (n := 1) (by decide +kernel) rfl rfl (by decide +kernel) (by omega) (by omega) (fun z27 hz27 => ?_)
                show pmE pg X pg_tyl pg_cl (d + 8) 300 167 [.ref 147, .int x1, .int x2, .int x3, .int x4, .int x5, .int x6, .int x7, .int x8, .int x9, .int z26, .int x11, .int z27] [] (md wc f A) _
                refine pe_goto (off := (-75)) (t := 92) (by decide +kernel) (by decide) rfl ?_
                exact ih z26 z27 (by omega) (by omega)
              · skip
                refine pe_iconstv (n := 1) (v := 1) (by decide +kernel) (by decide +kernel) ?_
                refine pe_iload (j := 12) (by decide +kernel) rfl ?_
                refine pz_shl1 (by decide +kernel) rfl (by omega) (by omega) (fun z28 hz28 => ?_)
                refine pe_goto (off := 4) (t := 161) (by decide +kernel) (by decide) rfl ?_
                refine pw_or (by decide +kernel) (fun z29 => ?_)
                refine pe_istore (j := 10) (ls' := [.ref 147, .int x1, .int x2, .int x3, .int x4, .int x5, .int x6, .int x7, .int x8, .int x9, .int z29, .int x11, .int x12]) (by decide +kernel) (Nat.le_of_ble_eq_true rfl) rfl ?_
                refine pz_iinc (j := 12) (n := 1) (by decide +kernel) rfl rfl (by decide +kernel) (by omega) (by omega) (fun z30 hz30 => ?_)
                show pmE pg X pg_tyl pg_cl (d + 8) 300 167 [.ref 147, .int x1, .int x2, .int x3, .int x4, .int x5, .int x6, .int x7, .int x8, .int x9, .int z29, .int x11, .int z30] [] (md wc f A) _
                refine pe_goto (off := (-75)) (t := 92) (by decide +kernel) (by decide) rfl ?_
                exact ih z29 z30 (by omega) (by omega)
set_option maxRecDepth 100000 in
set_option maxHeartbeats 8000000 in
theorem ML_300_77 {X : pm_X} {d : Nat} {wc : pm_W} {Q : pm_R → Prop} {f : Nat → Int32} {A : Nat → List Int32} {x1 x2 x3 x4 x5 x6 x7 x8 x9 : Int32} (hc : wc.length = 147) (hI : MI f A) (gx1 : (0 ≤ x1.toInt ∧ x1.toInt ≤ 1)) (gx2 : ((-1) ≤ x2.toInt ∧ x2.toInt ≤ 2)) (gx3 : (0 ≤ x3.toInt ∧ x3.toInt ≤ 30)) (gx4 : (0 ≤ x4.toInt ∧ x4.toInt ≤ 8)) (gx5 : (0 ≤ x5.toInt ∧ x5.toInt ≤ 8)) (gx6 : (1 ≤ x6.toInt ∧ x6.toInt ≤ 99)) (gx7 : (610 ≤ x7.toInt ∧ x7.toInt ≤ 742 ∧ (x7.toInt - 610) % 132 = 0)) (gx9 : (1 ≤ x9.toInt ∧ x9.toInt ≤ 9)) (k_176_0 : ∀ (y10 : Int32) (y11 : Int32) (v12 : Value), (0 ≤ y11.toInt ∧ y11.toInt ≤ 9) → pmE pg X pg_tyl pg_cl (d + 8) 300 176 [.ref 147, .int x1, .int x2, .int x3, .int x4, .int x5, .int x6, .int x7, .int x8, .int x9, .int y10, .int y11, v12] [] (md wc f A) Q) : ∀ (m : Nat) (x10 : Int32) (x11 : Int32) (u12 : Value), (0 ≤ x11.toInt ∧ x11.toInt ≤ 9) → 9 - x11.toInt < (m : Int) → pmE pg X pg_tyl pg_cl (d + 8) 300 77 [.ref 147, .int x1, .int x2, .int x3, .int x4, .int x5, .int x6, .int x7, .int x8, .int x9, .int x10, .int x11, u12] [] (md wc f A) Q := by
  intro m
  induction m with
  | zero =>
    intro x10 x11 u12 gx11 hm
    exfalso
    have l0 := zi_lo x11
    have u0 := zi_hi x11
    omega
  | succ m ih =>
    intro x10 x11 u12 gx11 hm
    refine pe_iload (j := 11) (by decide +kernel) rfl ?_
    refine pe_aload_n (j := 0) (by decide +kernel) rfl ?_
    refine pe_get (j := 7) (ci := 12) (n := 0) (by decide +kernel) (by decide +kernel) (md_o hc) rfl ?_
    refine pe_iload (j := 7) (by decide +kernel) rfl ?_
    refine mz_ld148 (by decide +kernel) hc hI rfl (by omega) (by omega) (fun v1 ev1 pv1 => ?_)
    have rv1 : 0 ≤ v1.toInt ∧ v1.toInt ≤ 9 := MT_people pv1 (by omega)
    clear pv1
    refine pz_icmp_ge (off := 90) (t := 176) (by decide +kernel) (by decide) rfl rfl rfl (fun h2 => ?_) (fun h2 => ?_)
    · skip
      exact k_176_0 x10 x11 (u12) (by omega)
    · skip
      refine pe_iconstv (n := 0) (v := 0) (by decide +kernel) (by decide +kernel) ?_
      refine pe_istore (j := 12) (ls' := [.ref 147, .int x1, .int x2, .int x3, .int x4, .int x5, .int x6, .int x7, .int x8, .int x9, .int x10, .int x11, .int 0]) (by decide +kernel) (Nat.le_of_ble_eq_true rfl) rfl ?_
      refine ML_300_92 hc hI (by omega) (by omega) (by omega) (by omega) (by omega) (by omega) (by omega) (by omega) (by omega) (fun y3 y4 gy4 => ?_) 10 x10 0 (by decide +kernel) (by decide +kernel)
      refine pz_iinc (j := 11) (n := 1) (by decide +kernel) rfl rfl (by decide +kernel) (by omega) (by omega) (fun z5 hz5 => ?_)
      show pmE pg X pg_tyl pg_cl (d + 8) 300 173 [.ref 147, .int x1, .int x2, .int x3, .int x4, .int x5, .int x6, .int x7, .int x8, .int x9, .int y3, .int z5, .int y4] [] (md wc f A) _
      refine pe_goto (off := (-96)) (t := 77) (by decide +kernel) (by decide) rfl ?_
      exact ih y3 z5 (.int y4) (by omega) (by omega)
set_option maxRecDepth 100000 in
set_option maxHeartbeats 8000000 in
theorem ML_300_63 {X : pm_X} {d : Nat} {wc : pm_W} {Q : pm_R → Prop} {f : Nat → Int32} {A : Nat → List Int32} {x1 x2 x3 x4 x5 x6 x7 : Int32} (hc : wc.length = 147) (hI : MI f A) (gx1 : (0 ≤ x1.toInt ∧ x1.toInt ≤ 1)) (gx2 : ((-1) ≤ x2.toInt ∧ x2.toInt ≤ 2)) (gx3 : (0 ≤ x3.toInt ∧ x3.toInt ≤ 30)) (gx4 : (0 ≤ x4.toInt ∧ x4.toInt ≤ 8)) (gx5 : (0 ≤ x5.toInt ∧ x5.toInt ≤ 8)) (gx6 : (1 ≤ x6.toInt ∧ x6.toInt ≤ 99)) (gx7 : (610 ≤ x7.toInt ∧ x7.toInt ≤ 742 ∧ (x7.toInt - 610) % 132 = 0)) (k_200_0 : ∀ (y8 : Int32) (y9 : Int32) (v10 : Value) (v11 : Value) (v12 : Value), (10 ≤ y9.toInt ∧ y9.toInt ≤ 10) → pmE pg X pg_tyl pg_cl (d + 8) 300 200 [.ref 147, .int x1, .int x2, .int x3, .int x4, .int x5, .int x6, .int x7, .int y8, .int y9, v10, v11, v12] [] (md wc f A) Q) (kr_v : ∀ (r : Int32), (1 ≤ r.toInt ∧ r.toInt ≤ 9) → Q (some (.int r), md wc f A, 0, 0)) : ∀ (m : Nat) (x8 : Int32) (x9 : Int32) (u10 : Value) (u11 : Value) (u12 : Value), (1 ≤ x9.toInt ∧ x9.toInt ≤ 10) → 10 - x9.toInt < (m : Int) → pmE pg X pg_tyl pg_cl (d + 8) 300 63 [.ref 147, .int x1, .int x2, .int x3, .int x4, .int x5, .int x6, .int x7, .int x8, .int x9, u10, u11, u12] [] (md wc f A) Q := by
  intro m
  induction m with
  | zero =>
    intro x8 x9 u10 u11 u12 gx9 hm
    exfalso
    have l0 := zi_lo x9
    have u0 := zi_hi x9
    omega
  | succ m ih =>
    intro x8 x9 u10 u11 u12 gx9 hm
    refine pe_iload (j := 9) (by decide +kernel) rfl ?_
    refine pe_bipushv (n := 10) (v := 10) (by decide +kernel) (by decide +kernel) ?_
    refine pz_icmp_ge (off := 133) (t := 200) (by decide +kernel) (by decide) rfl rfl kz_10 (fun h1 => ?_) (fun h1 => ?_)
    · skip
      exact k_200_0 x8 x9 (u10) (u11) (u12) (by omega)
    · skip
      refine pe_iload (j := 8) (by decide +kernel) rfl ?_
      refine pe_istore (j := 10) (ls' := [.ref 147, .int x1, .int x2, .int x3, .int x4, .int x5, .int x6, .int x7, .int x8, .int x9, .int x8, u11, u12]) (by decide +kernel) (Nat.le_of_ble_eq_true rfl) rfl ?_
      refine pe_iconstv (n := 0) (v := 0) (by decide +kernel) (by decide +kernel) ?_
      refine pe_istore (j := 11) (ls' := [.ref 147, .int x1, .int x2, .int x3, .int x4, .int x5, .int x6, .int x7, .int x8, .int x9, .int x8, .int 0, u12]) (by decide +kernel) (Nat.le_of_ble_eq_true rfl) rfl ?_
      refine ML_300_77 hc hI (by omega) (by omega) (by omega) (by omega) (by omega) (by omega) (by omega) (by omega) (fun y2 y3 u4 gy3 => ?_) 10 x8 0 (u12) (by decide +kernel) (by decide +kernel)
      refine pe_iload (j := 10) (by decide +kernel) rfl ?_
      refine pe_istore (j := 8) (ls' := [.ref 147, .int x1, .int x2, .int x3, .int x4, .int x5, .int x6, .int x7, .int y2, .int x9, .int y2, .int y3, u4]) (by decide +kernel) (Nat.le_of_ble_eq_true rfl) rfl ?_
      refine pe_iload (j := 8) (by decide +kernel) rfl ?_
      refine pe_iload (j := 5) (by decide +kernel) rfl ?_
      refine pw_shr (by decide +kernel) (fun z5 => ?_)
      refine pe_iconstv (n := 1) (v := 1) (by decide +kernel) (by decide +kernel) ?_
      refine pz_and1 (by decide +kernel) (fun z6 hz6 => ?_)
      refine pe_iconstv (n := 1) (v := 1) (by decide +kernel) (by decide +kernel) ?_
      refine pz_icmp_ne (off := 6) (t := 194) (by decide +kernel) (by decide) rfl rfl kz_1 (fun h7 => ?_) (fun h7 => ?_)
      · skip
        refine pz_iinc (j := 9) (n := 1) (by decide +kernel) rfl rfl (by decide +kernel) (by omega) (by omega) (fun z8 hz8 => ?_)
        show pmE pg X pg_tyl pg_cl (d + 8) 300 197 [.ref 147, .int x1, .int x2, .int x3, .int x4, .int x5, .int x6, .int x7, .int y2, .int z8, .int y2, .int y3, u4] [] (md wc f A) _
        refine pe_goto (off := (-134)) (t := 63) (by decide +kernel) (by decide) rfl ?_
        exact ih y2 z8 (.int y2) (.int y3) (u4) (by omega) (by omega)
      · skip
        refine pe_iload (j := 9) (by decide +kernel) rfl ?_
        exact pe_iret (by decide +kernel) rfl rfl (kr_v x9 (by omega))
set_option maxRecDepth 100000 in
set_option maxHeartbeats 8000000 in
theorem MM_300 {X : pm_X} {d : Nat} {wc : pm_W} {f : Nat → Int32} {A : Nat → List Int32} {x1 x2 x3 x4 x5 x6 : Int32} (hc : wc.length = 147) (hI : MI f A) : pmE pg X pg_tyl pg_cl (d + 8) 300 0 (pm_ent (pm_max pg 300) [.ref 147, .int x1, .int x2, .int x3, .int x4, .int x5, .int x6]) [] (md wc f A) (fun q => ∃ (f' : Nat → Int32) (A' : Nat → List Int32) (r : Int32), q = (some (.int r), md wc f' A', 0, 0) ∧ MI f' A' ∧ (∀ k : Nat, k ≠ 14 → k ≠ 15 → k ≠ 16 → f' k = f k) ∧ (∀ k : Nat, k ≠ 152 → k ≠ 153 → A' k = A k) ∧ ((((-1) ≤ r.toInt ∧ r.toInt ≤ 9) ∧ True))) := by
  show pmE pg X pg_tyl pg_cl (d + 8) 300 0 [.ref 147, .int x1, .int x2, .int x3, .int x4, .int x5, .int x6, pm_dead, pm_dead, pm_dead, pm_dead, pm_dead, pm_dead] [] (md wc f A) _
  refine pe_aload_n (j := 0) (by decide +kernel) rfl ?_
  refine pe_iload_n (j := 1) (by decide +kernel) rfl ?_
  refine pe_iload_n (j := 2) (by decide +kernel) rfl ?_
  refine pe_iload_n (j := 3) (by decide +kernel) rfl ?_
  refine pe_iload (j := 4) (by decide +kernel) rfl ?_
  refine pe_iload (j := 5) (by decide +kernel) rfl ?_
  refine pz_callV (j := 235) (mj := 245) (by decide +kernel) (cll_V (args := [.int x5, .int x4, .int x3, .int x2, .int x1]) (n := 5) (by decide +kernel) rfl rfl (md_o hc) (by decide +kernel) (Nat.le_of_ble_eq_true rfl) (Nat.le_of_ble_eq_true rfl)) (MM_245 hc hI) (fun q1a q1b q1c q1d hqq1 => ?_)
  obtain ⟨f2, A3, rq1, eq1, hIq1, hGq1, hFq1, kq1⟩ := hqq1
  cases eq1
  refine ⟨rfl, rfl, ?_⟩
  rcases kq1 with kq1 | kq1
  · skip
    obtain ⟨erq1, kq1⟩ := kq1
    subst erq1
    show pmE pg X pg_tyl pg_cl (d + 8) 300 11 [.ref 147, .int x1, .int x2, .int x3, .int x4, .int x5, .int x6, pm_dead, pm_dead, pm_dead, pm_dead, pm_dead, pm_dead] [.int 0] (md wc f2 A3) _
    refine pz_if_eq (off := 34) (t := 45) (by decide +kernel) (by decide) rfl kz_0 (fun h4 => ?_) (fun h4 => by omega)
    refine pe_iconstv (n := (-1)) (v := (-1)) (by decide +kernel) (by decide +kernel) ?_
    exact pe_iret (by decide +kernel) rfl rfl ⟨f2, A3, (-1), rfl, hIq1, (fun k n14 n15 n16 => (hGq1 k n14 n15 n16)), (fun k n152 n153 => (hFq1 k n152 n153)), ⟨(by decide +kernel), trivial⟩⟩
  · skip
    obtain ⟨erq1, kq1⟩ := kq1
    subst erq1
    show pmE pg X pg_tyl pg_cl (d + 8) 300 11 [.ref 147, .int x1, .int x2, .int x3, .int x4, .int x5, .int x6, pm_dead, pm_dead, pm_dead, pm_dead, pm_dead, pm_dead] [.int 1] (md wc f2 A3) _
    refine pz_if_eq (off := 34) (t := 45) (by decide +kernel) (by decide) rfl kz_1 (fun h5 => by omega) (fun h5 => ?_)
    refine pe_iload (j := 4) (by decide +kernel) rfl ?_
    refine pe_iload (j := 5) (by decide +kernel) rfl ?_
    refine pz_icmp_eq (off := 27) (t := 45) (by decide +kernel) (by decide) rfl rfl rfl (fun h6 => ?_) (fun h6 => ?_)
    · skip
      refine pe_iconstv (n := (-1)) (v := (-1)) (by decide +kernel) (by decide +kernel) ?_
      exact pe_iret (by decide +kernel) rfl rfl ⟨f2, A3, (-1), rfl, hIq1, (fun k n14 n15 n16 => (hGq1 k n14 n15 n16)), (fun k n152 n153 => (hFq1 k n152 n153)), ⟨(by decide +kernel), trivial⟩⟩
    · skip
      refine pe_iload (j := 6) (by decide +kernel) rfl ?_
      refine pe_iconstv (n := 1) (v := 1) (by decide +kernel) (by decide +kernel) ?_
      refine pe_bipushv (n := 99) (v := 99) (by decide +kernel) (by decide +kernel) ?_
      refine pi_S (j := 119) (mj := 199) (by decide +kernel) (by decide +kernel) rfl ?_
      show pmE pg X pg_tyl pg_cl (d + 7) 199 0 [.int x6, .int 1, .int 99] [] (md wc f2 A3) _
      refine pe_iload_n (j := 0) (by decide +kernel) rfl ?_
      refine pe_iload_n (j := 1) (by decide +kernel) rfl ?_
      have lw8 := zi_lo x6
      have uw8 := zi_hi x6
      refine pz_icmp_lt (off := 12) (t := 14) (by decide +kernel) (by decide) rfl rfl kz_1 (fun h7 => ?_) (fun h7 => ?_)
      · skip
        refine pe_iconstv (n := 0) (v := 0) (by decide +kernel) (by decide +kernel) ?_
        refine pe_iret (by decide +kernel) rfl rfl ⟨rfl, rfl, ?_⟩
        show pmE pg X pg_tyl pg_cl (d + 8) 300 29 [.ref 147, .int x1, .int x2, .int x3, .int x4, .int x5, .int x6, pm_dead, pm_dead, pm_dead, pm_dead, pm_dead, pm_dead] [.int 0] (md wc f2 A3) _
        refine pz_if_eq (off := 16) (t := 45) (by decide +kernel) (by decide) rfl kz_0 (fun h9 => ?_) (fun h9 => by omega)
        refine pe_iconstv (n := (-1)) (v := (-1)) (by decide +kernel) (by decide +kernel) ?_
        exact pe_iret (by decide +kernel) rfl rfl ⟨f2, A3, (-1), rfl, hIq1, (fun k n14 n15 n16 => (hGq1 k n14 n15 n16)), (fun k n152 n153 => (hFq1 k n152 n153)), ⟨(by decide +kernel), trivial⟩⟩
      · skip
        refine pe_iload_n (j := 0) (by decide +kernel) rfl ?_
        refine pe_iload_n (j := 2) (by decide +kernel) rfl ?_
        refine pz_icmp_gt (off := 7) (t := 14) (by decide +kernel) (by decide) rfl rfl kz_99 (fun h10 => ?_) (fun h10 => ?_)
        · skip
          refine pe_iconstv (n := 0) (v := 0) (by decide +kernel) (by decide +kernel) ?_
          refine pe_iret (by decide +kernel) rfl rfl ⟨rfl, rfl, ?_⟩
          show pmE pg X pg_tyl pg_cl (d + 8) 300 29 [.ref 147, .int x1, .int x2, .int x3, .int x4, .int x5, .int x6, pm_dead, pm_dead, pm_dead, pm_dead, pm_dead, pm_dead] [.int 0] (md wc f2 A3) _
          refine pz_if_eq (off := 16) (t := 45) (by decide +kernel) (by decide) rfl kz_0 (fun h11 => ?_) (fun h11 => by omega)
          refine pe_iconstv (n := (-1)) (v := (-1)) (by decide +kernel) (by decide +kernel) ?_
          exact pe_iret (by decide +kernel) rfl rfl ⟨f2, A3, (-1), rfl, hIq1, (fun k n14 n15 n16 => (hGq1 k n14 n15 n16)), (fun k n152 n153 => (hFq1 k n152 n153)), ⟨(by decide +kernel), trivial⟩⟩
        · skip
          refine pe_iconstv (n := 1) (v := 1) (by decide +kernel) (by decide +kernel) ?_
          refine pe_goto (off := 4) (t := 15) (by decide +kernel) (by decide) rfl ?_
          refine pe_iret (by decide +kernel) rfl rfl ⟨rfl, rfl, ?_⟩
          show pmE pg X pg_tyl pg_cl (d + 8) 300 29 [.ref 147, .int x1, .int x2, .int x3, .int x4, .int x5, .int x6, pm_dead, pm_dead, pm_dead, pm_dead, pm_dead, pm_dead] [.int 1] (md wc f2 A3) _
          refine pz_if_eq (off := 16) (t := 45) (by decide +kernel) (by decide) rfl kz_1 (fun h12 => by omega) (fun h12 => ?_)
          refine pe_aload_n (j := 0) (by decide +kernel) rfl ?_
          refine pe_iload (j := 4) (by decide +kernel) rfl ?_
          refine pe_iload (j := 5) (by decide +kernel) rfl ?_
          refine pi_V (j := 181) (mj := 232) (by decide +kernel) (cll_V (args := [.int x5, .int x4]) (n := 2) (by decide +kernel) rfl rfl (md_o hc) (by decide +kernel) (Nat.le_of_ble_eq_true rfl) (Nat.le_of_ble_eq_true rfl)) ?_
          show pmE pg X pg_tyl pg_cl (d + 7) 232 0 [.ref 147, .int x4, .int x5] [] (md wc f2 A3) _
          refine pe_aload_n (j := 0) (by decide +kernel) rfl ?_
          refine pe_get (j := 23) (ci := 12) (n := 12) (by decide +kernel) (by decide +kernel) (md_o hc) rfl ?_
          refine pe_bipushv (n := 9) (v := 9) (by decide +kernel) (by decide +kernel) ?_
          refine pe_iload_n (j := 1) (by decide +kernel) rfl ?_
          refine pz_mul (by decide +kernel) kz_9 rfl (by omega) (by omega) (fun z13 hz13 => ?_)
          refine pe_iload_n (j := 2) (by decide +kernel) rfl ?_
          refine pz_add (by decide +kernel) hz13 rfl (by omega) (by omega) (fun z14 hz14 => ?_)
          clear hz13
          refine mz_ld152 (by decide +kernel) hc hIq1 hz14 (by omega) (by omega) (fun v15 ev15 => ?_)
          clear hz14
          refine pe_iret (by decide +kernel) rfl rfl ⟨rfl, rfl, ?_⟩
          show pmE pg X pg_tyl pg_cl (d + 8) 300 40 [.ref 147, .int x1, .int x2, .int x3, .int x4, .int x5, .int x6, pm_dead, pm_dead, pm_dead, pm_dead, pm_dead, pm_dead] [.int v15] (md wc f2 A3) _
          refine pe_iload (j := 6) (by decide +kernel) rfl ?_
          have lw17 := zi_lo v15
          have uw17 := zi_hi v15
          refine pz_icmp_ge (off := 5) (t := 47) (by decide +kernel) (by decide) rfl rfl rfl (fun h16 => ?_) (fun h16 => ?_)
          · skip
            refine pe_iconstv (n := 0) (v := 0) (by decide +kernel) (by decide +kernel) ?_
            refine pe_iload_n (j := 1) (by decide +kernel) rfl ?_
            refine pi_S (j := 163) (mj := 217) (by decide +kernel) (by decide +kernel) rfl ?_
            show pmE pg X pg_tyl pg_cl (d + 7) 217 0 [.int 0, .int x1] [] (md wc f2 A3) _
            refine pe_iload_n (j := 0) (by decide +kernel) rfl ?_
            refine pz_if_ne (off := 15) (t := 16) (by decide +kernel) (by decide) rfl kz_0 (fun h18 => by omega) (fun h18 => ?_)
            refine pe_sipushv (n := 610) (v := 610) (by decide +kernel) (by decide +kernel) ?_
            refine pe_sipushv (n := 132) (v := 132) (by decide +kernel) (by decide +kernel) ?_
            refine pe_iload_n (j := 1) (by decide +kernel) rfl ?_
            refine pz_mul (by decide +kernel) kz_132 rfl (by omega) (by omega) (fun z19 hz19 => ?_)
            refine pz_add (by decide +kernel) kz_610 hz19 (by omega) (by omega) (fun z20 hz20 => ?_)
            clear hz19
            refine pe_goto (off := 12) (t := 25) (by decide +kernel) (by decide) rfl ?_
            refine pe_iret (by decide +kernel) rfl rfl ⟨rfl, rfl, ?_⟩
            show pmE pg X pg_tyl pg_cl (d + 8) 300 52 [.ref 147, .int x1, .int x2, .int x3, .int x4, .int x5, .int x6, pm_dead, pm_dead, pm_dead, pm_dead, pm_dead, pm_dead] [.int z20] (md wc f2 A3) _
            refine pe_istore (j := 7) (ls' := [.ref 147, .int x1, .int x2, .int x3, .int x4, .int x5, .int x6, .int z20, pm_dead, pm_dead, pm_dead, pm_dead, pm_dead]) (by decide +kernel) (Nat.le_of_ble_eq_true rfl) rfl ?_
            refine pe_iconstv (n := 1) (v := 1) (by decide +kernel) (by decide +kernel) ?_
            refine pe_iload (j := 4) (by decide +kernel) rfl ?_
            refine pz_shl1 (by decide +kernel) rfl (by omega) (by omega) (fun z21 hz21 => ?_)
            refine pe_istore (j := 8) (ls' := [.ref 147, .int x1, .int x2, .int x3, .int x4, .int x5, .int x6, .int z20, .int z21, pm_dead, pm_dead, pm_dead, pm_dead]) (by decide +kernel) (Nat.le_of_ble_eq_true rfl) rfl ?_
            refine pe_iconstv (n := 1) (v := 1) (by decide +kernel) (by decide +kernel) ?_
            refine pe_istore (j := 9) (ls' := [.ref 147, .int x1, .int x2, .int x3, .int x4, .int x5, .int x6, .int z20, .int z21, .int 1, pm_dead, pm_dead, pm_dead]) (by decide +kernel) (Nat.le_of_ble_eq_true rfl) rfl ?_
            refine ML_300_63 hc hIq1 (by omega) (by omega) (by omega) (by omega) (by omega) (by omega) (by omega) (fun y22 y23 u24 u25 u26 gy23 => ?_) (fun r27 gr27 => ⟨f2, A3, r27, rfl, hIq1, (fun k n14 n15 n16 => (hGq1 k n14 n15 n16)), (fun k n152 n153 => (hFq1 k n152 n153)), ⟨(by omega), trivial⟩⟩) 10 z21 1 (pm_dead) (pm_dead) (pm_dead) (by decide +kernel) (by decide +kernel)
            refine pe_iconstv (n := (-1)) (v := (-1)) (by decide +kernel) (by decide +kernel) ?_
            exact pe_iret (by decide +kernel) rfl rfl ⟨f2, A3, (-1), rfl, hIq1, (fun k n14 n15 n16 => (hGq1 k n14 n15 n16)), (fun k n152 n153 => (hFq1 k n152 n153)), ⟨(by decide +kernel), trivial⟩⟩
          · skip
            refine pe_iconstv (n := (-1)) (v := (-1)) (by decide +kernel) (by decide +kernel) ?_
            exact pe_iret (by decide +kernel) rfl rfl ⟨f2, A3, (-1), rfl, hIq1, (fun k n14 n15 n16 => (hGq1 k n14 n15 n16)), (fun k n152 n153 => (hFq1 k n152 n153)), ⟨(by decide +kernel), trivial⟩⟩
end
section
set_option maxRecDepth 100000 in
set_option maxHeartbeats 8000000 in
theorem ML_264_64 {X : pm_X} {d : Nat} {wc : pm_W} {Q : pm_R → Prop} {f : Nat → Int32} {A : Nat → List Int32} {x1 x2 x3 x4 x5 x6 : Int32} (hc : wc.length = 147) (hI : MI f A) (gx1 : (0 ≤ x1.toInt ∧ x1.toInt ≤ 1)) (gx2 : ((-1) ≤ x2.toInt ∧ x2.toInt ≤ 2)) (gx3 : (0 ≤ x3.toInt ∧ x3.toInt ≤ 30)) (gx4 : (0 ≤ x4.toInt ∧ x4.toInt ≤ 6)) (gx5 : (0 ≤ x5.toInt ∧ x5.toInt ≤ 2)) (gx6 : (1 ≤ x6.toInt ∧ x6.toInt ≤ 1)) (k_105_0 : ∀ (y7 : Int32) (y8 : Int32), (2 ≤ y8.toInt ∧ y8.toInt ≤ 6) → pmE pg X pg_tyl pg_cl (d + 8) 264 105 [.ref 147, .int x1, .int x2, .int x3, .int x4, .int x5, .int x6, .int y7, .int y8] [] (md wc f A) Q) : ∀ (m : Nat) (x7 : Int32) (x8 : Int32), (2 ≤ x8.toInt ∧ x8.toInt ≤ 6) → 6 - x8.toInt < (m : Int) → pmE pg X pg_tyl pg_cl (d + 8) 264 64 [.ref 147, .int x1, .int x2, .int x3, .int x4, .int x5, .int x6, .int x7, .int x8] [] (md wc f A) Q := by
  intro m
  induction m with
  | zero =>
    intro x7 x8 gx8 hm
    exfalso
    have l0 := zi_lo x8
    have u0 := zi_hi x8
    omega
  | succ m ih =>
    intro x7 x8 gx8 hm
    refine pe_iload (j := 8) (by decide +kernel) rfl ?_
    refine pe_aload_n (j := 0) (by decide +kernel) rfl ?_
    refine pe_get (j := 283) (ci := 12) (n := 23) (by decide +kernel) (by decide +kernel) (md_o hc) rfl ?_
    have hr_23_f := hI.1 23
    simp only [MF] at hr_23_f
    refine pz_icmp_ge (off := 35) (t := 105) (by decide +kernel) (by decide) rfl rfl rfl (fun h1 => ?_) (fun h1 => ?_)
    · skip
      exact k_105_0 x7 x8 (by omega)
    · skip
      refine pe_iload (j := 7) (by decide +kernel) rfl ?_
      refine pe_aload_n (j := 0) (by decide +kernel) rfl ?_
      refine pe_get (j := 7) (ci := 12) (n := 0) (by decide +kernel) (by decide +kernel) (md_o hc) rfl ?_
      refine pe_iconstv (n := 0) (v := 0) (by decide +kernel) (by decide +kernel) ?_
      refine pe_iload_n (j := 1) (by decide +kernel) rfl ?_
      refine pi_S (j := 163) (mj := 217) (by decide +kernel) (by decide +kernel) rfl ?_
      show pmE pg X pg_tyl pg_cl (d + 7) 217 0 [.int 0, .int x1] [] (md wc f A) _
      refine pe_iload_n (j := 0) (by decide +kernel) rfl ?_
      refine pz_if_ne (off := 15) (t := 16) (by decide +kernel) (by decide) rfl kz_0 (fun h2 => by omega) (fun h2 => ?_)
      refine pe_sipushv (n := 610) (v := 610) (by decide +kernel) (by decide +kernel) ?_
      refine pe_sipushv (n := 132) (v := 132) (by decide +kernel) (by decide +kernel) ?_
      refine pe_iload_n (j := 1) (by decide +kernel) rfl ?_
      refine pz_mul (by decide +kernel) kz_132 rfl (by omega) (by omega) (fun z3 hz3 => ?_)
      refine pz_add (by decide +kernel) kz_610 hz3 (by omega) (by omega) (fun z4 hz4 => ?_)
      clear hz3
      refine pe_goto (off := 12) (t := 25) (by decide +kernel) (by decide) rfl ?_
      refine pe_iret (by decide +kernel) rfl rfl ⟨rfl, rfl, ?_⟩
      show pmE pg X pg_tyl pg_cl (d + 8) 264 84 [.ref 147, .int x1, .int x2, .int x3, .int x4, .int x5, .int x6, .int x7, .int x8] [.int z4, .ref 148, .int x7] (md wc f A) _
      refine pe_bipushv (n := 84) (v := 84) (by decide +kernel) (by decide +kernel) ?_
      refine pz_add (by decide +kernel) hz4 kz_84 (by omega) (by omega) (fun z5 hz5 => ?_)
      clear hz4
      refine pe_aload_n (j := 0) (by decide +kernel) rfl ?_
      refine pe_get (j := 44) (ci := 12) (n := 22) (by decide +kernel) (by decide +kernel) (md_o hc) rfl ?_
      refine pe_iload (j := 8) (by decide +kernel) rfl ?_
      refine mz_ld159 (by decide +kernel) hc hI rfl (by omega) (by omega) (fun v6 ev6 pv6 => ?_)
      have rv6 : 0 ≤ v6.toInt ∧ v6.toInt ≤ 8 := by have p := pv6; simp only [MP_bestRound] at p; omega
      clear pv6
      refine pz_add (by decide +kernel) hz5 rfl (by omega) (by omega) (fun z7 hz7 => ?_)
      clear hz5
      refine mz_ld148 (by decide +kernel) hc hI hz7 (by omega) (by omega) (fun v8 ev8 pv8 => ?_)
      clear pv8
      clear hz7
      refine pw_add (by decide +kernel) (fun z9 => ?_)
      refine pe_istore (j := 7) (ls' := [.ref 147, .int x1, .int x2, .int x3, .int x4, .int x5, .int x6, .int z9, .int x8]) (by decide +kernel) (Nat.le_of_ble_eq_true rfl) rfl ?_
      refine pz_iinc (j := 8) (n := 1) (by decide +kernel) rfl rfl (by decide +kernel) (by omega) (by omega) (fun z10 hz10 => ?_)
      show pmE pg X pg_tyl pg_cl (d + 8) 264 102 [.ref 147, .int x1, .int x2, .int x3, .int x4, .int x5, .int x6, .int z9, .int z10] [] (md wc f A) _
      refine pe_goto (off := (-38)) (t := 64) (by decide +kernel) (by decide) rfl ?_
      exact ih z9 z10 (by omega) (by omega)
set_option maxRecDepth 100000 in
set_option maxHeartbeats 8000000 in
theorem MM_264 {X : pm_X} {d : Nat} {wc : pm_W} {f : Nat → Int32} {A : Nat → List Int32} {x1 x2 x3 x4 x5 x6 : Int32} (hc : wc.length = 147) (hI : MI f A) : pmE pg X pg_tyl pg_cl (d + 8) 264 0 (pm_ent (pm_max pg 264) [.ref 147, .int x1, .int x2, .int x3, .int x4, .int x5, .int x6]) [] (md wc f A) (fun q => ∃ (f' : Nat → Int32) (A' : Nat → List Int32) (r : Int32), q = (some (.int r), md wc f' A', 0, 0) ∧ MI f' A' ∧ (∀ k : Nat, k ≠ 14 → k ≠ 15 → k ≠ 16 → k ≠ 23 → k ≠ 24 → f' k = f k) ∧ (∀ k : Nat, k ≠ 152 → k ≠ 153 → k ≠ 158 → k ≠ 159 → A' k = A k) ∧ ((True ∧ True))) := by
  show pmE pg X pg_tyl pg_cl (d + 8) 264 0 [.ref 147, .int x1, .int x2, .int x3, .int x4, .int x5, .int x6, pm_dead, pm_dead] [] (md wc f A) _
  refine pe_iload (j := 5) (by decide +kernel) rfl ?_
  refine pe_iconstv (n := 0) (v := 0) (by decide +kernel) (by decide +kernel) ?_
  refine pe_iconstv (n := 2) (v := 2) (by decide +kernel) (by decide +kernel) ?_
  refine pi_S (j := 119) (mj := 199) (by decide +kernel) (by decide +kernel) rfl ?_
  show pmE pg X pg_tyl pg_cl (d + 7) 199 0 [.int x5, .int 0, .int 2] [] (md wc f A) _
  refine pe_iload_n (j := 0) (by decide +kernel) rfl ?_
  refine pe_iload_n (j := 1) (by decide +kernel) rfl ?_
  have lw2 := zi_lo x5
  have uw2 := zi_hi x5
  refine pz_icmp_lt (off := 12) (t := 14) (by decide +kernel) (by decide) rfl rfl kz_0 (fun h1 => ?_) (fun h1 => ?_)
  · skip
    refine pe_iconstv (n := 0) (v := 0) (by decide +kernel) (by decide +kernel) ?_
    refine pe_iret (by decide +kernel) rfl rfl ⟨rfl, rfl, ?_⟩
    show pmE pg X pg_tyl pg_cl (d + 8) 264 7 [.ref 147, .int x1, .int x2, .int x3, .int x4, .int x5, .int x6, pm_dead, pm_dead] [.int 0] (md wc f A) _
    refine pz_if_eq (off := 33) (t := 40) (by decide +kernel) (by decide) rfl kz_0 (fun h3 => ?_) (fun h3 => by omega)
    refine pe_iconstv (n := (-1)) (v := (-1)) (by decide +kernel) (by decide +kernel) ?_
    exact pe_iret (by decide +kernel) rfl rfl ⟨f, A, (-1), rfl, hI, (fun k n14 n15 n16 n23 n24 => rfl), (fun k n152 n153 n158 n159 => rfl), ⟨trivial, trivial⟩⟩
  · skip
    refine pe_iload_n (j := 0) (by decide +kernel) rfl ?_
    refine pe_iload_n (j := 2) (by decide +kernel) rfl ?_
    refine pz_icmp_gt (off := 7) (t := 14) (by decide +kernel) (by decide) rfl rfl kz_2 (fun h4 => ?_) (fun h4 => ?_)
    · skip
      refine pe_iconstv (n := 0) (v := 0) (by decide +kernel) (by decide +kernel) ?_
      refine pe_iret (by decide +kernel) rfl rfl ⟨rfl, rfl, ?_⟩
      show pmE pg X pg_tyl pg_cl (d + 8) 264 7 [.ref 147, .int x1, .int x2, .int x3, .int x4, .int x5, .int x6, pm_dead, pm_dead] [.int 0] (md wc f A) _
      refine pz_if_eq (off := 33) (t := 40) (by decide +kernel) (by decide) rfl kz_0 (fun h5 => ?_) (fun h5 => by omega)
      refine pe_iconstv (n := (-1)) (v := (-1)) (by decide +kernel) (by decide +kernel) ?_
      exact pe_iret (by decide +kernel) rfl rfl ⟨f, A, (-1), rfl, hI, (fun k n14 n15 n16 n23 n24 => rfl), (fun k n152 n153 n158 n159 => rfl), ⟨trivial, trivial⟩⟩
    · skip
      refine pe_iconstv (n := 1) (v := 1) (by decide +kernel) (by decide +kernel) ?_
      refine pe_goto (off := 4) (t := 15) (by decide +kernel) (by decide) rfl ?_
      refine pe_iret (by decide +kernel) rfl rfl ⟨rfl, rfl, ?_⟩
      show pmE pg X pg_tyl pg_cl (d + 8) 264 7 [.ref 147, .int x1, .int x2, .int x3, .int x4, .int x5, .int x6, pm_dead, pm_dead] [.int 1] (md wc f A) _
      refine pz_if_eq (off := 33) (t := 40) (by decide +kernel) (by decide) rfl kz_1 (fun h6 => by omega) (fun h6 => ?_)
      refine pe_aload_n (j := 0) (by decide +kernel) rfl ?_
      refine pe_iload_n (j := 1) (by decide +kernel) rfl ?_
      refine pe_iload_n (j := 2) (by decide +kernel) rfl ?_
      refine pe_iload_n (j := 3) (by decide +kernel) rfl ?_
      refine pe_iload (j := 4) (by decide +kernel) rfl ?_
      refine pz_callV (j := 303) (mj := 265) (by decide +kernel) (cll_V (args := [.int x4, .int x3, .int x2, .int x1]) (n := 4) (by decide +kernel) rfl rfl (md_o hc) (by decide +kernel) (Nat.le_of_ble_eq_true rfl) (Nat.le_of_ble_eq_true rfl)) (MM_265 hc hI) (fun q7a q7b q7c q7d hqq7 => ?_)
      obtain ⟨f8, A9, rq7, eq7, hIq7, hGq7, hFq7, kq7⟩ := hqq7
      cases eq7
      refine ⟨rfl, rfl, ?_⟩
      rcases kq7 with kq7 | kq7
      · skip
        obtain ⟨erq7, kq7⟩ := kq7
        subst erq7
        show pmE pg X pg_tyl pg_cl (d + 8) 264 19 [.ref 147, .int x1, .int x2, .int x3, .int x4, .int x5, .int x6, pm_dead, pm_dead] [.int 0] (md wc f8 A9) _
        refine pz_if_eq (off := 21) (t := 40) (by decide +kernel) (by decide) rfl kz_0 (fun h10 => ?_) (fun h10 => by omega)
        refine pe_iconstv (n := (-1)) (v := (-1)) (by decide +kernel) (by decide +kernel) ?_
        exact pe_iret (by decide +kernel) rfl rfl ⟨f8, A9, (-1), rfl, hIq7, (fun k n14 n15 n16 n23 n24 => (hGq7 k n14 n15 n16)), (fun k n152 n153 n158 n159 => (hFq7 k n152 n153)), ⟨trivial, trivial⟩⟩
      · skip
        obtain ⟨erq7, kq7⟩ := kq7
        subst erq7
        show pmE pg X pg_tyl pg_cl (d + 8) 264 19 [.ref 147, .int x1, .int x2, .int x3, .int x4, .int x5, .int x6, pm_dead, pm_dead] [.int 1] (md wc f8 A9) _
        refine pz_if_eq (off := 21) (t := 40) (by decide +kernel) (by decide) rfl kz_1 (fun h11 => by omega) (fun h11 => ?_)
        refine pe_aload_n (j := 0) (by decide +kernel) rfl ?_
        refine pe_iconstv (n := 0) (v := 0) (by decide +kernel) (by decide +kernel) ?_
        refine pe_iload_n (j := 1) (by decide +kernel) rfl ?_
        refine pi_S (j := 163) (mj := 217) (by decide +kernel) (by decide +kernel) rfl ?_
        show pmE pg X pg_tyl pg_cl (d + 7) 217 0 [.int 0, .int x1] [] (md wc f8 A9) _
        refine pe_iload_n (j := 0) (by decide +kernel) rfl ?_
        refine pz_if_ne (off := 15) (t := 16) (by decide +kernel) (by decide) rfl kz_0 (fun h12 => by omega) (fun h12 => ?_)
        refine pe_sipushv (n := 610) (v := 610) (by decide +kernel) (by decide +kernel) ?_
        refine pe_sipushv (n := 132) (v := 132) (by decide +kernel) (by decide +kernel) ?_
        refine pe_iload_n (j := 1) (by decide +kernel) rfl ?_
        refine pz_mul (by decide +kernel) kz_132 rfl (by omega) (by omega) (fun z13 hz13 => ?_)
        refine pz_add (by decide +kernel) kz_610 hz13 (by omega) (by omega) (fun z14 hz14 => ?_)
        clear hz13
        refine pe_goto (off := 12) (t := 25) (by decide +kernel) (by decide) rfl ?_
        refine pe_iret (by decide +kernel) rfl rfl ⟨rfl, rfl, ?_⟩
        show pmE pg X pg_tyl pg_cl (d + 8) 264 28 [.ref 147, .int x1, .int x2, .int x3, .int x4, .int x5, .int x6, pm_dead, pm_dead] [.int z14, .ref 147] (md wc f8 A9) _
        refine pe_iload (j := 4) (by decide +kernel) rfl ?_
        refine pe_iload (j := 5) (by decide +kernel) rfl ?_
        refine pe_iconstv (n := (-1)) (v := (-1)) (by decide +kernel) (by decide +kernel) ?_
        refine pe_iconstv (n := 0) (v := 0) (by decide +kernel) (by decide +kernel) ?_
        refine pz_callV (j := 306) (mj := 266) (by decide +kernel) (cll_V (args := [.int 0, .int (-1), .int x5, .int x4, .int z14]) (n := 5) (by decide +kernel) rfl rfl (md_o hc) (by decide +kernel) (Nat.le_of_ble_eq_true rfl) (Nat.le_of_ble_eq_true rfl)) (MM_266 hc hIq7 (by omega) (by omega)) (fun q15a q15b q15c q15d hqq15 => ?_)
        obtain ⟨f16, A17, rq15, eq15, hIq15, hGq15, hFq15, kq15⟩ := hqq15
        cases eq15
        refine ⟨rfl, rfl, ?_⟩
        rcases kq15 with kq15 | kq15
        · skip
          obtain ⟨erq15, kq15⟩ := kq15
          subst erq15
          show pmE pg X pg_tyl pg_cl (d + 8) 264 37 [.ref 147, .int x1, .int x2, .int x3, .int x4, .int x5, .int x6, pm_dead, pm_dead] [.int 0] (md wc f16 A17) _
          refine pz_if_ne (off := 5) (t := 42) (by decide +kernel) (by decide) rfl kz_0 (fun h18 => by omega) (fun h18 => ?_)
          refine pe_iconstv (n := (-1)) (v := (-1)) (by decide +kernel) (by decide +kernel) ?_
          exact pe_iret (by decide +kernel) rfl rfl ⟨f16, A17, (-1), rfl, hIq15, (fun k n14 n15 n16 n23 n24 => ((hGq15 k n23 n24)).trans ((hGq7 k n14 n15 n16))), (fun k n152 n153 n158 n159 => ((hFq15 k n158 n159)).trans ((hFq7 k n152 n153))), ⟨trivial, trivial⟩⟩
        · skip
          obtain ⟨erq15, kq15⟩ := kq15
          subst erq15
          show pmE pg X pg_tyl pg_cl (d + 8) 264 37 [.ref 147, .int x1, .int x2, .int x3, .int x4, .int x5, .int x6, pm_dead, pm_dead] [.int 1] (md wc f16 A17) _
          refine pz_if_ne (off := 5) (t := 42) (by decide +kernel) (by decide) rfl kz_1 (fun h19 => ?_) (fun h19 => by omega)
          refine pe_iload (j := 6) (by decide +kernel) rfl ?_
          have lw21 := zi_lo x6
          have uw21 := zi_hi x6
          refine pz_if_ne (off := 8) (t := 52) (by decide +kernel) (by decide) rfl rfl (fun h20 => ?_) (fun h20 => ?_)
          · skip
            refine pe_iload (j := 6) (by decide +kernel) rfl ?_
            refine pe_iconstv (n := 1) (v := 1) (by decide +kernel) (by decide +kernel) ?_
            refine pz_icmp_ne (off := 53) (t := 108) (by decide +kernel) (by decide) rfl rfl kz_1 (fun h22 => ?_) (fun h22 => ?_)
            · skip
              refine pe_iload (j := 6) (by decide +kernel) rfl ?_
              refine pe_bipushv (n := 10) (v := 10) (by decide +kernel) (by decide +kernel) ?_
              refine pe_bipushv (n := 9) (v := 9) (by decide +kernel) (by decide +kernel) ?_
              refine pe_aload_n (j := 0) (by decide +kernel) rfl ?_
              refine pe_get (j := 283) (ci := 12) (n := 23) (by decide +kernel) (by decide +kernel) (md_o hc) rfl ?_
              have hr_23_f16 := hIq15.1 23
              simp only [MF] at hr_23_f16
              refine pz_add (by decide +kernel) kz_9 rfl (by omega) (by omega) (fun z23 hz23 => ?_)
              refine pi_S (j := 119) (mj := 199) (by decide +kernel) (by decide +kernel) rfl ?_
              show pmE pg X pg_tyl pg_cl (d + 7) 199 0 [.int x6, .int 10, .int z23] [] (md wc f16 A17) _
              refine pe_iload_n (j := 0) (by decide +kernel) rfl ?_
              refine pe_iload_n (j := 1) (by decide +kernel) rfl ?_
              refine pz_icmp_lt (off := 12) (t := 14) (by decide +kernel) (by decide) rfl rfl kz_10 (fun h24 => ?_) (fun h24 => ?_)
              · skip
                refine pe_iconstv (n := 0) (v := 0) (by decide +kernel) (by decide +kernel) ?_
                refine pe_iret (by decide +kernel) rfl rfl ⟨rfl, rfl, ?_⟩
                show pmE pg X pg_tyl pg_cl (d + 8) 264 122 [.ref 147, .int x1, .int x2, .int x3, .int x4, .int x5, .int x6, pm_dead, pm_dead] [.int 0] (md wc f16 A17) _
                refine pz_if_eq (off := 16) (t := 138) (by decide +kernel) (by decide) rfl kz_0 (fun h25 => ?_) (fun h25 => by omega)
                refine pe_iconstv (n := (-1)) (v := (-1)) (by decide +kernel) (by decide +kernel) ?_
                exact pe_iret (by decide +kernel) rfl rfl ⟨f16, A17, (-1), rfl, hIq15, (fun k n14 n15 n16 n23 n24 => ((hGq15 k n23 n24)).trans ((hGq7 k n14 n15 n16))), (fun k n152 n153 n158 n159 => ((hFq15 k n158 n159)).trans ((hFq7 k n152 n153))), ⟨trivial, trivial⟩⟩
              · skip
                refine pe_iload_n (j := 0) (by decide +kernel) rfl ?_
                refine pe_iload_n (j := 2) (by decide +kernel) rfl ?_
                refine pz_icmp_gt (off := 7) (t := 14) (by decide +kernel) (by decide) rfl rfl hz23 (fun h26 => ?_) (fun h26 => ?_)
                · skip
                  refine pe_iconstv (n := 0) (v := 0) (by decide +kernel) (by decide +kernel) ?_
                  refine pe_iret (by decide +kernel) rfl rfl ⟨rfl, rfl, ?_⟩
                  show pmE pg X pg_tyl pg_cl (d + 8) 264 122 [.ref 147, .int x1, .int x2, .int x3, .int x4, .int x5, .int x6, pm_dead, pm_dead] [.int 0] (md wc f16 A17) _
                  refine pz_if_eq (off := 16) (t := 138) (by decide +kernel) (by decide) rfl kz_0 (fun h27 => ?_) (fun h27 => by omega)
                  refine pe_iconstv (n := (-1)) (v := (-1)) (by decide +kernel) (by decide +kernel) ?_
                  exact pe_iret (by decide +kernel) rfl rfl ⟨f16, A17, (-1), rfl, hIq15, (fun k n14 n15 n16 n23 n24 => ((hGq15 k n23 n24)).trans ((hGq7 k n14 n15 n16))), (fun k n152 n153 n158 n159 => ((hFq15 k n158 n159)).trans ((hFq7 k n152 n153))), ⟨trivial, trivial⟩⟩
                · skip
                  refine pe_iconstv (n := 1) (v := 1) (by decide +kernel) (by decide +kernel) ?_
                  refine pe_goto (off := 4) (t := 15) (by decide +kernel) (by decide) rfl ?_
                  refine pe_iret (by decide +kernel) rfl rfl ⟨rfl, rfl, ?_⟩
                  show pmE pg X pg_tyl pg_cl (d + 8) 264 122 [.ref 147, .int x1, .int x2, .int x3, .int x4, .int x5, .int x6, pm_dead, pm_dead] [.int 1] (md wc f16 A17) _
                  refine pz_if_eq (off := 16) (t := 138) (by decide +kernel) (by decide) rfl kz_1 (fun h28 => by omega) (fun h28 => ?_)
                  refine pe_aload_n (j := 0) (by decide +kernel) rfl ?_
                  refine pe_get (j := 44) (ci := 12) (n := 22) (by decide +kernel) (by decide +kernel) (md_o hc) rfl ?_
                  refine pe_iload (j := 6) (by decide +kernel) rfl ?_
                  refine pe_bipushv (n := 10) (v := 10) (by decide +kernel) (by decide +kernel) ?_
                  refine pz_sub (by decide +kernel) rfl kz_10 (by omega) (by omega) (fun z29 hz29 => ?_)
                  refine mz_ld159 (by decide +kernel) hc hIq15 hz29 (by omega) (by omega) (fun v30 ev30 pv30 => ?_)
                  have rv30 : 0 ≤ v30.toInt ∧ v30.toInt ≤ 8 := by have p := pv30; simp only [MP_bestRound] at p; omega
                  clear pv30
                  clear hz29
                  refine pe_goto (off := 4) (t := 139) (by decide +kernel) (by decide) rfl ?_
                  exact pe_iret (by decide +kernel) rfl rfl ⟨f16, A17, v30, rfl, hIq15, (fun k n14 n15 n16 n23 n24 => ((hGq15 k n23 n24)).trans ((hGq7 k n14 n15 n16))), (fun k n152 n153 n158 n159 => ((hFq15 k n158 n159)).trans ((hFq7 k n152 n153))), ⟨trivial, trivial⟩⟩
            · skip
              refine pe_iconstv (n := 0) (v := 0) (by decide +kernel) (by decide +kernel) ?_
              refine pe_istore (j := 7) (ls' := [.ref 147, .int x1, .int x2, .int x3, .int x4, .int x5, .int x6, .int 0, pm_dead]) (by decide +kernel) (Nat.le_of_ble_eq_true rfl) rfl ?_
              refine pe_iconstv (n := 2) (v := 2) (by decide +kernel) (by decide +kernel) ?_
              refine pe_istore (j := 8) (ls' := [.ref 147, .int x1, .int x2, .int x3, .int x4, .int x5, .int x6, .int 0, .int 2]) (by decide +kernel) (Nat.le_of_ble_eq_true rfl) rfl ?_
              refine ML_264_64 hc hIq15 (by omega) (by omega) (by omega) (by omega) (by omega) (by omega) (fun y31 y32 gy32 => ?_) 5 0 2 (by decide +kernel) (by decide +kernel)
              refine pe_iload (j := 7) (by decide +kernel) rfl ?_
              exact pe_iret (by decide +kernel) rfl rfl ⟨f16, A17, y31, rfl, hIq15, (fun k n14 n15 n16 n23 n24 => ((hGq15 k n23 n24)).trans ((hGq7 k n14 n15 n16))), (fun k n152 n153 n158 n159 => ((hFq15 k n158 n159)).trans ((hFq7 k n152 n153))), ⟨trivial, trivial⟩⟩
          · skip
            refine pe_aload_n (j := 0) (by decide +kernel) rfl ?_
            refine pe_get (j := 283) (ci := 12) (n := 23) (by decide +kernel) (by decide +kernel) (md_o hc) rfl ?_
            have hr_23_f16 := hIq15.1 23
            simp only [MF] at hr_23_f16
            exact pe_iret (by decide +kernel) rfl rfl ⟨f16, A17, (f16 23), rfl, hIq15, (fun k n14 n15 n16 n23 n24 => ((hGq15 k n23 n24)).trans ((hGq7 k n14 n15 n16))), (fun k n152 n153 n158 n159 => ((hFq15 k n158 n159)).trans ((hFq7 k n152 n153))), ⟨trivial, trivial⟩⟩
set_option maxRecDepth 100000 in
set_option maxHeartbeats 8000000 in
theorem ML_272_50 {X : pm_X} {d : Nat} {wc : pm_W} {Q : pm_R → Prop} {f : Nat → Int32} {A : Nat → List Int32} {x1 x2 x3 x4 x5 x6 : Int32} (hc : wc.length = 147) (hI : MI f A) (gx1 : (0 ≤ x1.toInt ∧ x1.toInt ≤ 1)) (gx2 : ((-1) ≤ x2.toInt ∧ x2.toInt ≤ 2)) (gx3 : (0 ≤ x3.toInt ∧ x3.toInt ≤ 30)) (gx4 : (0 ≤ x4.toInt ∧ x4.toInt ≤ 6)) (gx5 : (0 ≤ x5.toInt ∧ x5.toInt ≤ 2)) (k_106_0 : ∀ (i7 : Int64) (y9 : Int32), (0 ≤ y9.toInt ∧ y9.toInt ≤ 6) → pmE pg X pg_tyl pg_cl (d + 8) 272 106 [.ref 147, .int x1, .int x2, .int x3, .int x4, .int x5, .int x6, .long i7, pm_dead, .int y9] [] (md wc f A) Q) : ∀ (m : Nat) (j7 : Int64) (x9 : Int32), (0 ≤ x9.toInt ∧ x9.toInt ≤ 6) → 6 - x9.toInt < (m : Int) → pmE pg X pg_tyl pg_cl (d + 8) 272 50 [.ref 147, .int x1, .int x2, .int x3, .int x4, .int x5, .int x6, .long j7, pm_dead, .int x9] [] (md wc f A) Q := by
  intro m
  induction m with
  | zero =>
    intro j7 x9 gx9 hm
    exfalso
    have l0 := zi_lo x9
    have u0 := zi_hi x9
    omega
  | succ m ih =>
    intro j7 x9 gx9 hm
    refine pe_iload (j := 9) (by decide +kernel) rfl ?_
    refine pe_aload_n (j := 0) (by decide +kernel) rfl ?_
    refine pe_get (j := 283) (ci := 12) (n := 23) (by decide +kernel) (by decide +kernel) (md_o hc) rfl ?_
    have hr_23_f := hI.1 23
    simp only [MF] at hr_23_f
    refine pz_icmp_ge (off := 50) (t := 106) (by decide +kernel) (by decide) rfl rfl rfl (fun h1 => ?_) (fun h1 => ?_)
    · skip
      exact k_106_0 j7 x9 (by omega)
    · skip
      refine pe_lload (j := 7) (by decide +kernel) rfl ?_
      refine pe_iload (j := 6) (by decide +kernel) rfl ?_
      have lw3 := zi_lo x6
      have uw3 := zi_hi x6
      refine pz_if_eq (off := 9) (t := 72) (by decide +kernel) (by decide) rfl rfl (fun h2 => ?_) (fun h2 => ?_)
      · skip
        refine pe_bipushv (n := 100) (v := 100) (by decide +kernel) (by decide +kernel) ?_
        refine pe_aload_n (j := 0) (by decide +kernel) rfl ?_
        refine pe_get (j := 7) (ci := 12) (n := 0) (by decide +kernel) (by decide +kernel) (md_o hc) rfl ?_
        refine pe_iconstv (n := 0) (v := 0) (by decide +kernel) (by decide +kernel) ?_
        refine pe_iload_n (j := 1) (by decide +kernel) rfl ?_
        refine pi_S (j := 163) (mj := 217) (by decide +kernel) (by decide +kernel) rfl ?_
        show pmE pg X pg_tyl pg_cl (d + 7) 217 0 [.int 0, .int x1] [] (md wc f A) _
        refine pe_iload_n (j := 0) (by decide +kernel) rfl ?_
        refine pz_if_ne (off := 15) (t := 16) (by decide +kernel) (by decide) rfl kz_0 (fun h4 => by omega) (fun h4 => ?_)
        refine pe_sipushv (n := 610) (v := 610) (by decide +kernel) (by decide +kernel) ?_
        refine pe_sipushv (n := 132) (v := 132) (by decide +kernel) (by decide +kernel) ?_
        refine pe_iload_n (j := 1) (by decide +kernel) rfl ?_
        refine pz_mul (by decide +kernel) kz_132 rfl (by omega) (by omega) (fun z5 hz5 => ?_)
        refine pz_add (by decide +kernel) kz_610 hz5 (by omega) (by omega) (fun z6 hz6 => ?_)
        clear hz5
        refine pe_goto (off := 12) (t := 25) (by decide +kernel) (by decide) rfl ?_
        refine pe_iret (by decide +kernel) rfl rfl ⟨rfl, rfl, ?_⟩
        show pmE pg X pg_tyl pg_cl (d + 8) 272 83 [.ref 147, .int x1, .int x2, .int x3, .int x4, .int x5, .int x6, .long j7, pm_dead, .int x9] [.int z6, .ref 148, .int 100, .long j7] (md wc f A) _
        refine pe_bipushv (n := 93) (v := 93) (by decide +kernel) (by decide +kernel) ?_
        refine pz_add (by decide +kernel) hz6 kz_93 (by omega) (by omega) (fun z7 hz7 => ?_)
        clear hz6
        refine pe_aload_n (j := 0) (by decide +kernel) rfl ?_
        refine pe_get (j := 44) (ci := 12) (n := 22) (by decide +kernel) (by decide +kernel) (md_o hc) rfl ?_
        refine pe_iload (j := 9) (by decide +kernel) rfl ?_
        refine mz_ld159 (by decide +kernel) hc hI rfl (by omega) (by omega) (fun v8 ev8 pv8 => ?_)
        have rv8 : 0 ≤ v8.toInt ∧ v8.toInt ≤ 8 := by have p := pv8; simp only [MP_bestRound] at p; omega
        clear pv8
        refine pz_add (by decide +kernel) hz7 rfl (by omega) (by omega) (fun z9 hz9 => ?_)
        clear hz7
        refine mz_ld148 (by decide +kernel) hc hI hz9 (by omega) (by omega) (fun v10 ev10 pv10 => ?_)
        clear pv10
        clear hz9
        refine pw_sub (by decide +kernel) (fun z11 => ?_)
        refine pw_i2l (by decide +kernel) (fun l12 => ?_)
        refine pw_lmul (by decide +kernel) (fun l13 => ?_)
        refine pe_lstore (j := 7) (ls' := [.ref 147, .int x1, .int x2, .int x3, .int x4, .int x5, .int x6, .long l13, pm_dead, .int x9]) (by decide +kernel) (Nat.le_of_ble_eq_true rfl) rfl ?_
        refine pz_iinc (j := 9) (n := 1) (by decide +kernel) rfl rfl (by decide +kernel) (by omega) (by omega) (fun z14 hz14 => ?_)
        show pmE pg X pg_tyl pg_cl (d + 8) 272 103 [.ref 147, .int x1, .int x2, .int x3, .int x4, .int x5, .int x6, .long l13, pm_dead, .int z14] [] (md wc f A) _
        refine pe_goto (off := (-53)) (t := 50) (by decide +kernel) (by decide) rfl ?_
        exact ih l13 z14 (by omega) (by omega)
      · skip
        refine pw_ldc2 (j := 281) (v := 100) (by decide +kernel) (by decide +kernel) (fun l15 => ?_)
        refine pe_goto (off := 28) (t := 97) (by decide +kernel) (by decide) rfl ?_
        refine pw_lmul (by decide +kernel) (fun l16 => ?_)
        refine pe_lstore (j := 7) (ls' := [.ref 147, .int x1, .int x2, .int x3, .int x4, .int x5, .int x6, .long l16, pm_dead, .int x9]) (by decide +kernel) (Nat.le_of_ble_eq_true rfl) rfl ?_
        refine pz_iinc (j := 9) (n := 1) (by decide +kernel) rfl rfl (by decide +kernel) (by omega) (by omega) (fun z17 hz17 => ?_)
        show pmE pg X pg_tyl pg_cl (d + 8) 272 103 [.ref 147, .int x1, .int x2, .int x3, .int x4, .int x5, .int x6, .long l16, pm_dead, .int z17] [] (md wc f A) _
        refine pe_goto (off := (-53)) (t := 50) (by decide +kernel) (by decide) rfl ?_
        exact ih l16 z17 (by omega) (by omega)
set_option maxRecDepth 100000 in
set_option maxHeartbeats 8000000 in
theorem MM_272 {X : pm_X} {d : Nat} {wc : pm_W} {f : Nat → Int32} {A : Nat → List Int32} {x1 x2 x3 x4 x5 x6 : Int32} (hc : wc.length = 147) (hI : MI f A) : pmE pg X pg_tyl pg_cl (d + 8) 272 0 (pm_ent (pm_max pg 272) [.ref 147, .int x1, .int x2, .int x3, .int x4, .int x5, .int x6]) [] (md wc f A) (fun q => ∃ (f' : Nat → Int32) (A' : Nat → List Int32) (l : Int64), q = (some (.long l), md wc f' A', 0, 0) ∧ MI f' A' ∧ (∀ k : Nat, k ≠ 14 → k ≠ 15 → k ≠ 16 → k ≠ 23 → k ≠ 24 → f' k = f k) ∧ (∀ k : Nat, k ≠ 152 → k ≠ 153 → k ≠ 158 → k ≠ 159 → A' k = A k) ∧ ((True))) := by
  show pmE pg X pg_tyl pg_cl (d + 8) 272 0 [.ref 147, .int x1, .int x2, .int x3, .int x4, .int x5, .int x6, pm_dead, pm_dead, pm_dead] [] (md wc f A) _
  refine pe_iload (j := 5) (by decide +kernel) rfl ?_
  refine pe_iconstv (n := 0) (v := 0) (by decide +kernel) (by decide +kernel) ?_
  refine pe_iconstv (n := 2) (v := 2) (by decide +kernel) (by decide +kernel) ?_
  refine pi_S (j := 119) (mj := 199) (by decide +kernel) (by decide +kernel) rfl ?_
  show pmE pg X pg_tyl pg_cl (d + 7) 199 0 [.int x5, .int 0, .int 2] [] (md wc f A) _
  refine pe_iload_n (j := 0) (by decide +kernel) rfl ?_
  refine pe_iload_n (j := 1) (by decide +kernel) rfl ?_
  have lw2 := zi_lo x5
  have uw2 := zi_hi x5
  refine pz_icmp_lt (off := 12) (t := 14) (by decide +kernel) (by decide) rfl rfl kz_0 (fun h1 => ?_) (fun h1 => ?_)
  · skip
    refine pe_iconstv (n := 0) (v := 0) (by decide +kernel) (by decide +kernel) ?_
    refine pe_iret (by decide +kernel) rfl rfl ⟨rfl, rfl, ?_⟩
    show pmE pg X pg_tyl pg_cl (d + 8) 272 7 [.ref 147, .int x1, .int x2, .int x3, .int x4, .int x5, .int x6, pm_dead, pm_dead, pm_dead] [.int 0] (md wc f A) _
    refine pz_if_eq (off := 33) (t := 40) (by decide +kernel) (by decide) rfl kz_0 (fun h3 => ?_) (fun h3 => by omega)
    refine pw_ldc2 (j := 309) (v := (-1)) (by decide +kernel) (by decide +kernel) (fun l4 => ?_)
    exact pe_lret (by decide +kernel) rfl ⟨f, A, l4, rfl, hI, (fun k n14 n15 n16 n23 n24 => rfl), (fun k n152 n153 n158 n159 => rfl), trivial⟩
  · skip
    refine pe_iload_n (j := 0) (by decide +kernel) rfl ?_
    refine pe_iload_n (j := 2) (by decide +kernel) rfl ?_
    refine pz_icmp_gt (off := 7) (t := 14) (by decide +kernel) (by decide) rfl rfl kz_2 (fun h5 => ?_) (fun h5 => ?_)
    · skip
      refine pe_iconstv (n := 0) (v := 0) (by decide +kernel) (by decide +kernel) ?_
      refine pe_iret (by decide +kernel) rfl rfl ⟨rfl, rfl, ?_⟩
      show pmE pg X pg_tyl pg_cl (d + 8) 272 7 [.ref 147, .int x1, .int x2, .int x3, .int x4, .int x5, .int x6, pm_dead, pm_dead, pm_dead] [.int 0] (md wc f A) _
      refine pz_if_eq (off := 33) (t := 40) (by decide +kernel) (by decide) rfl kz_0 (fun h6 => ?_) (fun h6 => by omega)
      refine pw_ldc2 (j := 309) (v := (-1)) (by decide +kernel) (by decide +kernel) (fun l7 => ?_)
      exact pe_lret (by decide +kernel) rfl ⟨f, A, l7, rfl, hI, (fun k n14 n15 n16 n23 n24 => rfl), (fun k n152 n153 n158 n159 => rfl), trivial⟩
    · skip
      refine pe_iconstv (n := 1) (v := 1) (by decide +kernel) (by decide +kernel) ?_
      refine pe_goto (off := 4) (t := 15) (by decide +kernel) (by decide) rfl ?_
      refine pe_iret (by decide +kernel) rfl rfl ⟨rfl, rfl, ?_⟩
      show pmE pg X pg_tyl pg_cl (d + 8) 272 7 [.ref 147, .int x1, .int x2, .int x3, .int x4, .int x5, .int x6, pm_dead, pm_dead, pm_dead] [.int 1] (md wc f A) _
      refine pz_if_eq (off := 33) (t := 40) (by decide +kernel) (by decide) rfl kz_1 (fun h8 => by omega) (fun h8 => ?_)
      refine pe_aload_n (j := 0) (by decide +kernel) rfl ?_
      refine pe_iload_n (j := 1) (by decide +kernel) rfl ?_
      refine pe_iload_n (j := 2) (by decide +kernel) rfl ?_
      refine pe_iload_n (j := 3) (by decide +kernel) rfl ?_
      refine pe_iload (j := 4) (by decide +kernel) rfl ?_
      refine pz_callV (j := 303) (mj := 265) (by decide +kernel) (cll_V (args := [.int x4, .int x3, .int x2, .int x1]) (n := 4) (by decide +kernel) rfl rfl (md_o hc) (by decide +kernel) (Nat.le_of_ble_eq_true rfl) (Nat.le_of_ble_eq_true rfl)) (MM_265 hc hI) (fun q9a q9b q9c q9d hqq9 => ?_)
      obtain ⟨f10, A11, rq9, eq9, hIq9, hGq9, hFq9, kq9⟩ := hqq9
      cases eq9
      refine ⟨rfl, rfl, ?_⟩
      rcases kq9 with kq9 | kq9
      · skip
        obtain ⟨erq9, kq9⟩ := kq9
        subst erq9
        show pmE pg X pg_tyl pg_cl (d + 8) 272 19 [.ref 147, .int x1, .int x2, .int x3, .int x4, .int x5, .int x6, pm_dead, pm_dead, pm_dead] [.int 0] (md wc f10 A11) _
        refine pz_if_eq (off := 21) (t := 40) (by decide +kernel) (by decide) rfl kz_0 (fun h12 => ?_) (fun h12 => by omega)
        refine pw_ldc2 (j := 309) (v := (-1)) (by decide +kernel) (by decide +kernel) (fun l13 => ?_)
        exact pe_lret (by decide +kernel) rfl ⟨f10, A11, l13, rfl, hIq9, (fun k n14 n15 n16 n23 n24 => (hGq9 k n14 n15 n16)), (fun k n152 n153 n158 n159 => (hFq9 k n152 n153)), trivial⟩
      · skip
        obtain ⟨erq9, kq9⟩ := kq9
        subst erq9
        show pmE pg X pg_tyl pg_cl (d + 8) 272 19 [.ref 147, .int x1, .int x2, .int x3, .int x4, .int x5, .int x6, pm_dead, pm_dead, pm_dead] [.int 1] (md wc f10 A11) _
        refine pz_if_eq (off := 21) (t := 40) (by decide +kernel) (by decide) rfl kz_1 (fun h14 => by omega) (fun h14 => ?_)
        refine pe_aload_n (j := 0) (by decide +kernel) rfl ?_
        refine pe_iconstv (n := 0) (v := 0) (by decide +kernel) (by decide +kernel) ?_
        refine pe_iload_n (j := 1) (by decide +kernel) rfl ?_
        refine pi_S (j := 163) (mj := 217) (by decide +kernel) (by decide +kernel) rfl ?_
        show pmE pg X pg_tyl pg_cl (d + 7) 217 0 [.int 0, .int x1] [] (md wc f10 A11) _
        refine pe_iload_n (j := 0) (by decide +kernel) rfl ?_
        refine pz_if_ne (off := 15) (t := 16) (by decide +kernel) (by decide) rfl kz_0 (fun h15 => by omega) (fun h15 => ?_)
        refine pe_sipushv (n := 610) (v := 610) (by decide +kernel) (by decide +kernel) ?_
        refine pe_sipushv (n := 132) (v := 132) (by decide +kernel) (by decide +kernel) ?_
        refine pe_iload_n (j := 1) (by decide +kernel) rfl ?_
        refine pz_mul (by decide +kernel) kz_132 rfl (by omega) (by omega) (fun z16 hz16 => ?_)
        refine pz_add (by decide +kernel) kz_610 hz16 (by omega) (by omega) (fun z17 hz17 => ?_)
        clear hz16
        refine pe_goto (off := 12) (t := 25) (by decide +kernel) (by decide) rfl ?_
        refine pe_iret (by decide +kernel) rfl rfl ⟨rfl, rfl, ?_⟩
        show pmE pg X pg_tyl pg_cl (d + 8) 272 28 [.ref 147, .int x1, .int x2, .int x3, .int x4, .int x5, .int x6, pm_dead, pm_dead, pm_dead] [.int z17, .ref 147] (md wc f10 A11) _
        refine pe_iload (j := 4) (by decide +kernel) rfl ?_
        refine pe_iload (j := 5) (by decide +kernel) rfl ?_
        refine pe_iconstv (n := (-1)) (v := (-1)) (by decide +kernel) (by decide +kernel) ?_
        refine pe_iconstv (n := 0) (v := 0) (by decide +kernel) (by decide +kernel) ?_
        refine pz_callV (j := 306) (mj := 266) (by decide +kernel) (cll_V (args := [.int 0, .int (-1), .int x5, .int x4, .int z17]) (n := 5) (by decide +kernel) rfl rfl (md_o hc) (by decide +kernel) (Nat.le_of_ble_eq_true rfl) (Nat.le_of_ble_eq_true rfl)) (MM_266 hc hIq9 (by omega) (by omega)) (fun q18a q18b q18c q18d hqq18 => ?_)
        obtain ⟨f19, A20, rq18, eq18, hIq18, hGq18, hFq18, kq18⟩ := hqq18
        cases eq18
        refine ⟨rfl, rfl, ?_⟩
        rcases kq18 with kq18 | kq18
        · skip
          obtain ⟨erq18, kq18⟩ := kq18
          subst erq18
          show pmE pg X pg_tyl pg_cl (d + 8) 272 37 [.ref 147, .int x1, .int x2, .int x3, .int x4, .int x5, .int x6, pm_dead, pm_dead, pm_dead] [.int 0] (md wc f19 A20) _
          refine pz_if_ne (off := 7) (t := 44) (by decide +kernel) (by decide) rfl kz_0 (fun h21 => by omega) (fun h21 => ?_)
          refine pw_ldc2 (j := 309) (v := (-1)) (by decide +kernel) (by decide +kernel) (fun l22 => ?_)
          exact pe_lret (by decide +kernel) rfl ⟨f19, A20, l22, rfl, hIq18, (fun k n14 n15 n16 n23 n24 => ((hGq18 k n23 n24)).trans ((hGq9 k n14 n15 n16))), (fun k n152 n153 n158 n159 => ((hFq18 k n158 n159)).trans ((hFq9 k n152 n153))), trivial⟩
        · skip
          obtain ⟨erq18, kq18⟩ := kq18
          subst erq18
          show pmE pg X pg_tyl pg_cl (d + 8) 272 37 [.ref 147, .int x1, .int x2, .int x3, .int x4, .int x5, .int x6, pm_dead, pm_dead, pm_dead] [.int 1] (md wc f19 A20) _
          refine pz_if_ne (off := 7) (t := 44) (by decide +kernel) (by decide) rfl kz_1 (fun h23 => ?_) (fun h23 => by omega)
          refine pw_lconst (n := 1) (by decide +kernel) (fun l24 => ?_)
          refine pe_lstore (j := 7) (ls' := [.ref 147, .int x1, .int x2, .int x3, .int x4, .int x5, .int x6, .long l24, pm_dead, pm_dead]) (by decide +kernel) (Nat.le_of_ble_eq_true rfl) rfl ?_
          refine pe_iconstv (n := 0) (v := 0) (by decide +kernel) (by decide +kernel) ?_
          refine pe_istore (j := 9) (ls' := [.ref 147, .int x1, .int x2, .int x3, .int x4, .int x5, .int x6, .long l24, pm_dead, .int 0]) (by decide +kernel) (Nat.le_of_ble_eq_true rfl) rfl ?_
          refine ML_272_50 hc hIq18 (by omega) (by omega) (by omega) (by omega) (by omega) (fun l25 y26 gy26 => ?_) 7 l24 0 (by decide +kernel) (by decide +kernel)
          refine pe_lload (j := 7) (by decide +kernel) rfl ?_
          exact pe_lret (by decide +kernel) rfl ⟨f19, A20, l25, rfl, hIq18, (fun k n14 n15 n16 n23 n24 => ((hGq18 k n23 n24)).trans ((hGq9 k n14 n15 n16))), (fun k n152 n153 n158 n159 => ((hFq18 k n158 n159)).trans ((hFq9 k n152 n153))), trivial⟩
set_option maxRecDepth 100000 in
set_option maxHeartbeats 8000000 in
theorem ML_273_61 {X : pm_X} {d : Nat} {wc : pm_W} {Q : pm_R → Prop} {f : Nat → Int32} {A : Nat → List Int32} {x1 x2 x3 x4 x5 x6 : Int32} (hc : wc.length = 147) (hI : MI f A) (gx1 : (0 ≤ x1.toInt ∧ x1.toInt ≤ 1)) (gx2 : ((-1) ≤ x2.toInt ∧ x2.toInt ≤ 2)) (gx3 : (0 ≤ x3.toInt ∧ x3.toInt ≤ 30)) (gx4 : (0 ≤ x4.toInt ∧ x4.toInt ≤ 6)) (gx5 : (0 ≤ x5.toInt ∧ x5.toInt ≤ 8)) (gx6 : (0 ≤ x6.toInt ∧ x6.toInt ≤ 99)) (k_91_0 : ∀ (y7 : Int32), (0 ≤ y7.toInt ∧ y7.toInt ≤ 6) → pmE pg X pg_tyl pg_cl (d + 8) 273 91 [.ref 147, .int x1, .int x2, .int x3, .int x4, .int x5, .int x6, .int y7] [] (md wc f A) Q) (kr_v : ∀ (r : Int32), (0 ≤ r.toInt ∧ r.toInt ≤ 99) → Q (some (.int r), md wc f A, 0, 0)) : ∀ (m : Nat) (x7 : Int32), (0 ≤ x7.toInt ∧ x7.toInt ≤ 6) → 6 - x7.toInt < (m : Int) → pmE pg X pg_tyl pg_cl (d + 8) 273 61 [.ref 147, .int x1, .int x2, .int x3, .int x4, .int x5, .int x6, .int x7] [] (md wc f A) Q := by
  intro m
  induction m with
  | zero =>
    intro x7 gx7 hm
    exfalso
    have l0 := zi_lo x7
    have u0 := zi_hi x7
    omega
  | succ m ih =>
    intro x7 gx7 hm
    refine pe_iload (j := 7) (by decide +kernel) rfl ?_
    refine pe_aload_n (j := 0) (by decide +kernel) rfl ?_
    refine pe_get (j := 283) (ci := 12) (n := 23) (by decide +kernel) (by decide +kernel) (md_o hc) rfl ?_
    have hr_23_f := hI.1 23
    simp only [MF] at hr_23_f
    refine pz_icmp_ge (off := 24) (t := 91) (by decide +kernel) (by decide) rfl rfl rfl (fun h1 => ?_) (fun h1 => ?_)
    · skip
      exact k_91_0 x7 (by omega)
    · skip
      refine pe_aload_n (j := 0) (by decide +kernel) rfl ?_
      refine pe_get (j := 44) (ci := 12) (n := 22) (by decide +kernel) (by decide +kernel) (md_o hc) rfl ?_
      refine pe_iload (j := 7) (by decide +kernel) rfl ?_
      refine mz_ld159 (by decide +kernel) hc hI rfl (by omega) (by omega) (fun v2 ev2 pv2 => ?_)
      have rv2 : 0 ≤ v2.toInt ∧ v2.toInt ≤ 8 := by have p := pv2; simp only [MP_bestRound] at p; omega
      clear pv2
      refine pe_iload (j := 5) (by decide +kernel) rfl ?_
      refine pz_icmp_ne (off := 6) (t := 85) (by decide +kernel) (by decide) rfl rfl rfl (fun h3 => ?_) (fun h3 => ?_)
      · skip
        refine pz_iinc (j := 7) (n := 1) (by decide +kernel) rfl rfl (by decide +kernel) (by omega) (by omega) (fun z4 hz4 => ?_)
        show pmE pg X pg_tyl pg_cl (d + 8) 273 88 [.ref 147, .int x1, .int x2, .int x3, .int x4, .int x5, .int x6, .int z4] [] (md wc f A) _
        refine pe_goto (off := (-27)) (t := 61) (by decide +kernel) (by decide) rfl ?_
        exact ih z4 (by omega) (by omega)
      · skip
        refine pe_iload (j := 6) (by decide +kernel) rfl ?_
        exact pe_iret (by decide +kernel) rfl rfl (kr_v x6 (by omega))
set_option maxRecDepth 100000 in
set_option maxHeartbeats 8000000 in
theorem ML_273_32 {X : pm_X} {d : Nat} {wc : pm_W} {Q : pm_R → Prop} {f0 : Nat → Int32} {A0 : Nat → List Int32} {x1 x2 x3 x4 x5 : Int32} (hc : wc.length = 147) (gx1 : (0 ≤ x1.toInt ∧ x1.toInt ≤ 1)) (gx2 : ((-1) ≤ x2.toInt ∧ x2.toInt ≤ 2)) (gx3 : (0 ≤ x3.toInt ∧ x3.toInt ≤ 30)) (gx4 : (0 ≤ x4.toInt ∧ x4.toInt ≤ 6)) (gx5 : (0 ≤ x5.toInt ∧ x5.toInt ≤ 8)) (k_97_0 : ∀ (f' : Nat → Int32) (A' : Nat → List Int32) (y6 : Int32) (v7 : Value), MI f' A' → (∀ k : Nat, k ≠ 23 → k ≠ 24 → f' k = f0 k) → (∀ k : Nat, k ≠ 158 → k ≠ 159 → A' k = A0 k) → ((-1) ≤ y6.toInt ∧ y6.toInt ≤ (-1)) → pmE pg X pg_tyl pg_cl (d + 8) 273 97 [.ref 147, .int x1, .int x2, .int x3, .int x4, .int x5, .int y6, v7] [] (md wc f' A') Q) (kr_v : ∀ (f' : Nat → Int32) (A' : Nat → List Int32) (r : Int32), MI f' A' → (∀ k : Nat, k ≠ 23 → k ≠ 24 → f' k = f0 k) → (∀ k : Nat, k ≠ 158 → k ≠ 159 → A' k = A0 k) → (0 ≤ r.toInt ∧ r.toInt ≤ 99) → Q (some (.int r), md wc f' A', 0, 0)) (kr_m1 : ∀ (f' : Nat → Int32) (A' : Nat → List Int32), MI f' A' → (∀ k : Nat, k ≠ 23 → k ≠ 24 → f' k = f0 k) → (∀ k : Nat, k ≠ 158 → k ≠ 159 → A' k = A0 k) → Q (some (.int (-1)), md wc f' A', 0, 0)) : ∀ (m : Nat) (f : Nat → Int32) (A : Nat → List Int32) (x6 : Int32) (u7 : Value), MI f A → (∀ k : Nat, k ≠ 23 → k ≠ 24 → f k = f0 k) → (∀ k : Nat, k ≠ 158 → k ≠ 159 → A k = A0 k) → ((-1) ≤ x6.toInt ∧ x6.toInt ≤ 99) → x6.toInt - (-1) < (m : Int) → pmE pg X pg_tyl pg_cl (d + 8) 273 32 [.ref 147, .int x1, .int x2, .int x3, .int x4, .int x5, .int x6, u7] [] (md wc f A) Q := by
  intro m
  induction m with
  | zero =>
    intro f A x6 u7 hI hG hF gx6 hm
    exfalso
    have l0 := zi_lo x6
    have u0 := zi_hi x6
    omega
  | succ m ih =>
    intro f A x6 u7 hI hG hF gx6 hm
    refine pe_iload (j := 6) (by decide +kernel) rfl ?_
    refine pz_if_lt (off := 63) (t := 97) (by decide +kernel) (by decide) rfl rfl (fun h1 => ?_) (fun h1 => ?_)
    · skip
      exact k_97_0 f A x6 (u7) hI (fun k n23 n24 => (hG k n23 n24)) (fun k n158 n159 => (hF k n158 n159)) (by omega)
    · skip
      refine pe_aload_n (j := 0) (by decide +kernel) rfl ?_
      refine pe_iconstv (n := 0) (v := 0) (by decide +kernel) (by decide +kernel) ?_
      refine pe_iload_n (j := 1) (by decide +kernel) rfl ?_
      refine pi_S (j := 163) (mj := 217) (by decide +kernel) (by decide +kernel) rfl ?_
      show pmE pg X pg_tyl pg_cl (d + 7) 217 0 [.int 0, .int x1] [] (md wc f A) _
      refine pe_iload_n (j := 0) (by decide +kernel) rfl ?_
      refine pz_if_ne (off := 15) (t := 16) (by decide +kernel) (by decide) rfl kz_0 (fun h2 => by omega) (fun h2 => ?_)
      refine pe_sipushv (n := 610) (v := 610) (by decide +kernel) (by decide +kernel) ?_
      refine pe_sipushv (n := 132) (v := 132) (by decide +kernel) (by decide +kernel) ?_
      refine pe_iload_n (j := 1) (by decide +kernel) rfl ?_
      refine pz_mul (by decide +kernel) kz_132 rfl (by omega) (by omega) (fun z3 hz3 => ?_)
      refine pz_add (by decide +kernel) kz_610 hz3 (by omega) (by omega) (fun z4 hz4 => ?_)
      clear hz3
      refine pe_goto (off := 12) (t := 25) (by decide +kernel) (by decide) rfl ?_
      refine pe_iret (by decide +kernel) rfl rfl ⟨rfl, rfl, ?_⟩
      show pmE pg X pg_tyl pg_cl (d + 8) 273 43 [.ref 147, .int x1, .int x2, .int x3, .int x4, .int x5, .int x6, u7] [.int z4, .ref 147] (md wc f A) _
      refine pe_iload (j := 4) (by decide +kernel) rfl ?_
      refine pe_iconstv (n := 1) (v := 1) (by decide +kernel) (by decide +kernel) ?_
      refine pe_iload (j := 5) (by decide +kernel) rfl ?_
      refine pe_iload (j := 6) (by decide +kernel) rfl ?_
      refine pz_callV (j := 306) (mj := 266) (by decide +kernel) (cll_V (args := [.int x6, .int x5, .int 1, .int x4, .int z4]) (n := 5) (by decide +kernel) rfl rfl (md_o hc) (by decide +kernel) (Nat.le_of_ble_eq_true rfl) (Nat.le_of_ble_eq_true rfl)) (MM_266 hc hI (by omega) (by omega)) (fun q5a q5b q5c q5d hqq5 => ?_)
      obtain ⟨f6, A7, rq5, eq5, hIq5, hGq5, hFq5, kq5⟩ := hqq5
      cases eq5
      refine ⟨rfl, rfl, ?_⟩
      rcases kq5 with kq5 | kq5
      · skip
        obtain ⟨erq5, kq5⟩ := kq5
        subst erq5
        show pmE pg X pg_tyl pg_cl (d + 8) 273 53 [.ref 147, .int x1, .int x2, .int x3, .int x4, .int x5, .int x6, u7] [.int 0] (md wc f6 A7) _
        refine pz_if_ne (off := 5) (t := 58) (by decide +kernel) (by decide) rfl kz_0 (fun h8 => by omega) (fun h8 => ?_)
        refine pe_iconstv (n := (-1)) (v := (-1)) (by decide +kernel) (by decide +kernel) ?_
        exact pe_iret (by decide +kernel) rfl rfl (kr_m1 f6 A7 hIq5 (fun k n23 n24 => ((hGq5 k n23 n24)).trans ((hG k n23 n24))) (fun k n158 n159 => ((hFq5 k n158 n159)).trans ((hF k n158 n159))))
      · skip
        obtain ⟨erq5, kq5⟩ := kq5
        subst erq5
        show pmE pg X pg_tyl pg_cl (d + 8) 273 53 [.ref 147, .int x1, .int x2, .int x3, .int x4, .int x5, .int x6, u7] [.int 1] (md wc f6 A7) _
        refine pz_if_ne (off := 5) (t := 58) (by decide +kernel) (by decide) rfl kz_1 (fun h9 => ?_) (fun h9 => by omega)
        refine pe_iconstv (n := 0) (v := 0) (by decide +kernel) (by decide +kernel) ?_
        refine pe_istore (j := 7) (ls' := [.ref 147, .int x1, .int x2, .int x3, .int x4, .int x5, .int x6, .int 0]) (by decide +kernel) (Nat.le_of_ble_eq_true rfl) rfl ?_
        refine ML_273_61 hc hIq5 (by omega) (by omega) (by omega) (by omega) (by omega) (by omega) (fun y10 gy10 => ?_) (fun r11 gr11 => (kr_v f6 A7 r11 hIq5 (fun k n23 n24 => ((hGq5 k n23 n24)).trans ((hG k n23 n24))) (fun k n158 n159 => ((hFq5 k n158 n159)).trans ((hF k n158 n159))) (by omega))) 7 0 (by decide +kernel) (by decide +kernel)
        refine pz_iinc (j := 6) (n := (-1)) (by decide +kernel) rfl rfl (by decide +kernel) (by omega) (by omega) (fun z12 hz12 => ?_)
        show pmE pg X pg_tyl pg_cl (d + 8) 273 94 [.ref 147, .int x1, .int x2, .int x3, .int x4, .int x5, .int z12, .int y10] [] (md wc f6 A7) _
        refine pe_goto (off := (-62)) (t := 32) (by decide +kernel) (by decide) rfl ?_
        exact ih f6 A7 z12 (.int y10) hIq5 (fun k n23 n24 => ((hGq5 k n23 n24)).trans ((hG k n23 n24))) (fun k n158 n159 => ((hFq5 k n158 n159)).trans ((hF k n158 n159))) (by omega) (by omega)
set_option maxRecDepth 100000 in
set_option maxHeartbeats 8000000 in
theorem MM_273 {X : pm_X} {d : Nat} {wc : pm_W} {f : Nat → Int32} {A : Nat → List Int32} {x1 x2 x3 x4 x5 : Int32} (hc : wc.length = 147) (hI : MI f A) : pmE pg X pg_tyl pg_cl (d + 8) 273 0 (pm_ent (pm_max pg 273) [.ref 147, .int x1, .int x2, .int x3, .int x4, .int x5]) [] (md wc f A) (fun q => ∃ (f' : Nat → Int32) (A' : Nat → List Int32) (r : Int32), q = (some (.int r), md wc f' A', 0, 0) ∧ MI f' A' ∧ (∀ k : Nat, k ≠ 14 → k ≠ 15 → k ≠ 16 → k ≠ 23 → k ≠ 24 → f' k = f k) ∧ (∀ k : Nat, k ≠ 152 → k ≠ 153 → k ≠ 158 → k ≠ 159 → A' k = A k) ∧ ((((-1) ≤ r.toInt ∧ r.toInt ≤ 99) ∧ True))) := by
  show pmE pg X pg_tyl pg_cl (d + 8) 273 0 [.ref 147, .int x1, .int x2, .int x3, .int x4, .int x5, pm_dead, pm_dead] [] (md wc f A) _
  refine pe_aload_n (j := 0) (by decide +kernel) rfl ?_
  refine pe_iload_n (j := 1) (by decide +kernel) rfl ?_
  refine pe_iload_n (j := 2) (by decide +kernel) rfl ?_
  refine pe_iload_n (j := 3) (by decide +kernel) rfl ?_
  refine pe_iload (j := 4) (by decide +kernel) rfl ?_
  refine pz_callV (j := 303) (mj := 265) (by decide +kernel) (cll_V (args := [.int x4, .int x3, .int x2, .int x1]) (n := 4) (by decide +kernel) rfl rfl (md_o hc) (by decide +kernel) (Nat.le_of_ble_eq_true rfl) (Nat.le_of_ble_eq_true rfl)) (MM_265 hc hI) (fun q1a q1b q1c q1d hqq1 => ?_)
  obtain ⟨f2, A3, rq1, eq1, hIq1, hGq1, hFq1, kq1⟩ := hqq1
  cases eq1
  refine ⟨rfl, rfl, ?_⟩
  rcases kq1 with kq1 | kq1
  · skip
    obtain ⟨erq1, kq1⟩ := kq1
    subst erq1
    show pmE pg X pg_tyl pg_cl (d + 8) 273 9 [.ref 147, .int x1, .int x2, .int x3, .int x4, .int x5, pm_dead, pm_dead] [.int 0] (md wc f2 A3) _
    refine pz_if_eq (off := 17) (t := 26) (by decide +kernel) (by decide) rfl kz_0 (fun h4 => ?_) (fun h4 => by omega)
    refine pe_iconstv (n := (-1)) (v := (-1)) (by decide +kernel) (by decide +kernel) ?_
    exact pe_iret (by decide +kernel) rfl rfl ⟨f2, A3, (-1), rfl, hIq1, (fun k n14 n15 n16 n23 n24 => (hGq1 k n14 n15 n16)), (fun k n152 n153 n158 n159 => (hFq1 k n152 n153)), ⟨(by decide +kernel), trivial⟩⟩
  · skip
    obtain ⟨erq1, kq1⟩ := kq1
    subst erq1
    show pmE pg X pg_tyl pg_cl (d + 8) 273 9 [.ref 147, .int x1, .int x2, .int x3, .int x4, .int x5, pm_dead, pm_dead] [.int 1] (md wc f2 A3) _
    refine pz_if_eq (off := 17) (t := 26) (by decide +kernel) (by decide) rfl kz_1 (fun h5 => by omega) (fun h5 => ?_)
    refine pe_aload_n (j := 0) (by decide +kernel) rfl ?_
    refine pe_iconstv (n := 0) (v := 0) (by decide +kernel) (by decide +kernel) ?_
    refine pe_iload_n (j := 1) (by decide +kernel) rfl ?_
    refine pi_S (j := 163) (mj := 217) (by decide +kernel) (by decide +kernel) rfl ?_
    show pmE pg X pg_tyl pg_cl (d + 7) 217 0 [.int 0, .int x1] [] (md wc f2 A3) _
    refine pe_iload_n (j := 0) (by decide +kernel) rfl ?_
    refine pz_if_ne (off := 15) (t := 16) (by decide +kernel) (by decide) rfl kz_0 (fun h6 => by omega) (fun h6 => ?_)
    refine pe_sipushv (n := 610) (v := 610) (by decide +kernel) (by decide +kernel) ?_
    refine pe_sipushv (n := 132) (v := 132) (by decide +kernel) (by decide +kernel) ?_
    refine pe_iload_n (j := 1) (by decide +kernel) rfl ?_
    refine pz_mul (by decide +kernel) kz_132 rfl (by omega) (by omega) (fun z7 hz7 => ?_)
    refine pz_add (by decide +kernel) kz_610 hz7 (by omega) (by omega) (fun z8 hz8 => ?_)
    clear hz7
    refine pe_goto (off := 12) (t := 25) (by decide +kernel) (by decide) rfl ?_
    refine pe_iret (by decide +kernel) rfl rfl ⟨rfl, rfl, ?_⟩
    show pmE pg X pg_tyl pg_cl (d + 8) 273 18 [.ref 147, .int x1, .int x2, .int x3, .int x4, .int x5, pm_dead, pm_dead] [.int z8, .ref 147] (md wc f2 A3) _
    refine pe_iload (j := 5) (by decide +kernel) rfl ?_
    refine pi_V (j := 166) (mj := 221) (by decide +kernel) (cll_V (args := [.int x5, .int z8]) (n := 2) (by decide +kernel) rfl rfl (md_o hc) (by decide +kernel) (Nat.le_of_ble_eq_true rfl) (Nat.le_of_ble_eq_true rfl)) ?_
    show pmE pg X pg_tyl pg_cl (d + 7) 221 0 [.ref 147, .int z8, .int x5] [] (md wc f2 A3) _
    refine pe_iload_n (j := 2) (by decide +kernel) rfl ?_
    refine pe_iconstv (n := 0) (v := 0) (by decide +kernel) (by decide +kernel) ?_
    refine pe_aload_n (j := 0) (by decide +kernel) rfl ?_
    refine pe_get (j := 7) (ci := 12) (n := 0) (by decide +kernel) (by decide +kernel) (md_o hc) rfl ?_
    refine pe_iload_n (j := 1) (by decide +kernel) rfl ?_
    refine mz_ld148 (by decide +kernel) hc hIq1 hz8 (by omega) (by omega) (fun v9 ev9 pv9 => ?_)
    rw [show A3 148 = A 148 from (hFq1 148 (by decide) (by decide))] at ev9
    have rv9 : 0 ≤ v9.toInt ∧ v9.toInt ≤ 9 := MT_people pv9 (by omega)
    clear pv9
    refine pe_iconstv (n := 1) (v := 1) (by decide +kernel) (by decide +kernel) ?_
    refine pz_sub (by decide +kernel) rfl kz_1 (by omega) (by omega) (fun z10 hz10 => ?_)
    refine pi_S (j := 119) (mj := 199) (by decide +kernel) (by decide +kernel) rfl ?_
    show pmE pg X pg_tyl pg_cl (d + 6) 199 0 [.int x5, .int 0, .int z10] [] (md wc f2 A3) _
    refine pe_iload_n (j := 0) (by decide +kernel) rfl ?_
    refine pe_iload_n (j := 1) (by decide +kernel) rfl ?_
    have lw12 := zi_lo x5
    have uw12 := zi_hi x5
    refine pz_icmp_lt (off := 12) (t := 14) (by decide +kernel) (by decide) rfl rfl kz_0 (fun h11 => ?_) (fun h11 => ?_)
    · skip
      refine pe_iconstv (n := 0) (v := 0) (by decide +kernel) (by decide +kernel) ?_
      refine pe_iret (by decide +kernel) rfl rfl ⟨rfl, rfl, ?_⟩
      show pmE pg X pg_tyl pg_cl (d + 7) 221 13 [.ref 147, .int z8, .int x5] [.int 0] (md wc f2 A3) _
      refine pe_iret (by decide +kernel) rfl rfl ⟨rfl, rfl, ?_⟩
      show pmE pg X pg_tyl pg_cl (d + 8) 273 23 [.ref 147, .int x1, .int x2, .int x3, .int x4, .int x5, pm_dead, pm_dead] [.int 0] (md wc f2 A3) _
      refine pz_if_ne (off := 5) (t := 28) (by decide +kernel) (by decide) rfl kz_0 (fun h13 => by omega) (fun h13 => ?_)
      refine pe_iconstv (n := (-1)) (v := (-1)) (by decide +kernel) (by decide +kernel) ?_
      exact pe_iret (by decide +kernel) rfl rfl ⟨f2, A3, (-1), rfl, hIq1, (fun k n14 n15 n16 n23 n24 => (hGq1 k n14 n15 n16)), (fun k n152 n153 n158 n159 => (hFq1 k n152 n153)), ⟨(by decide +kernel), trivial⟩⟩
    · skip
      refine pe_iload_n (j := 0) (by decide +kernel) rfl ?_
      refine pe_iload_n (j := 2) (by decide +kernel) rfl ?_
      refine pz_icmp_gt (off := 7) (t := 14) (by decide +kernel) (by decide) rfl rfl hz10 (fun h14 => ?_) (fun h14 => ?_)
      · skip
        refine pe_iconstv (n := 0) (v := 0) (by decide +kernel) (by decide +kernel) ?_
        refine pe_iret (by decide +kernel) rfl rfl ⟨rfl, rfl, ?_⟩
        show pmE pg X pg_tyl pg_cl (d + 7) 221 13 [.ref 147, .int z8, .int x5] [.int 0] (md wc f2 A3) _
        refine pe_iret (by decide +kernel) rfl rfl ⟨rfl, rfl, ?_⟩
        show pmE pg X pg_tyl pg_cl (d + 8) 273 23 [.ref 147, .int x1, .int x2, .int x3, .int x4, .int x5, pm_dead, pm_dead] [.int 0] (md wc f2 A3) _
        refine pz_if_ne (off := 5) (t := 28) (by decide +kernel) (by decide) rfl kz_0 (fun h15 => by omega) (fun h15 => ?_)
        refine pe_iconstv (n := (-1)) (v := (-1)) (by decide +kernel) (by decide +kernel) ?_
        exact pe_iret (by decide +kernel) rfl rfl ⟨f2, A3, (-1), rfl, hIq1, (fun k n14 n15 n16 n23 n24 => (hGq1 k n14 n15 n16)), (fun k n152 n153 n158 n159 => (hFq1 k n152 n153)), ⟨(by decide +kernel), trivial⟩⟩
      · skip
        refine pe_iconstv (n := 1) (v := 1) (by decide +kernel) (by decide +kernel) ?_
        refine pe_goto (off := 4) (t := 15) (by decide +kernel) (by decide) rfl ?_
        refine pe_iret (by decide +kernel) rfl rfl ⟨rfl, rfl, ?_⟩
        show pmE pg X pg_tyl pg_cl (d + 7) 221 13 [.ref 147, .int z8, .int x5] [.int 1] (md wc f2 A3) _
        refine pe_iret (by decide +kernel) rfl rfl ⟨rfl, rfl, ?_⟩
        show pmE pg X pg_tyl pg_cl (d + 8) 273 23 [.ref 147, .int x1, .int x2, .int x3, .int x4, .int x5, pm_dead, pm_dead] [.int 1] (md wc f2 A3) _
        refine pz_if_ne (off := 5) (t := 28) (by decide +kernel) (by decide) rfl kz_1 (fun h16 => ?_) (fun h16 => by omega)
        refine pe_bipushv (n := 99) (v := 99) (by decide +kernel) (by decide +kernel) ?_
        refine pe_istore (j := 6) (ls' := [.ref 147, .int x1, .int x2, .int x3, .int x4, .int x5, .int 99, pm_dead]) (by decide +kernel) (Nat.le_of_ble_eq_true rfl) rfl ?_
        refine ML_273_32 hc (by omega) (by omega) (by omega) (by omega) (by omega) (fun f17 A18 y20 u21 hIy19 hGhIy19 hFhIy19 gy20 => ?_) (fun f22 A23 r24 hIy25 hGhIy25 hFhIy25 gr24 => ⟨f22, A23, r24, rfl, hIy25, (fun k n14 n15 n16 n23 n24 => ((hGhIy25 k n23 n24)).trans ((hGq1 k n14 n15 n16))), (fun k n152 n153 n158 n159 => ((hFhIy25 k n158 n159)).trans ((hFq1 k n152 n153))), ⟨(by omega), trivial⟩⟩) (fun f26 A27 hIy28 hGhIy28 hFhIy28 => ⟨f26, A27, (-1), rfl, hIy28, (fun k n14 n15 n16 n23 n24 => ((hGhIy28 k n23 n24)).trans ((hGq1 k n14 n15 n16))), (fun k n152 n153 n158 n159 => ((hFhIy28 k n158 n159)).trans ((hFq1 k n152 n153))), ⟨(by decide +kernel), trivial⟩⟩) 101 f2 A3 99 (pm_dead) hIq1 (fun k _ _ => rfl) (fun k _ _ => rfl) (by decide +kernel) (by decide +kernel)
        refine pe_iconstv (n := (-1)) (v := (-1)) (by decide +kernel) (by decide +kernel) ?_
        exact pe_iret (by decide +kernel) rfl rfl ⟨f17, A18, (-1), rfl, hIy19, (fun k n14 n15 n16 n23 n24 => ((hGhIy19 k n23 n24)).trans ((hGq1 k n14 n15 n16))), (fun k n152 n153 n158 n159 => ((hFhIy19 k n158 n159)).trans ((hFq1 k n152 n153))), ⟨(by decide +kernel), trivial⟩⟩
end
