set_option maxRecDepth 100000 in
set_option maxHeartbeats 8000000 in
theorem ML_310_30 {X : pm_X} {d : Nat} {wc : pm_W} {Q : pm_R → Prop} {f : Nat → Int32} {A : Nat → List Int32} {x1 x2 x3 x4 : Int32} (hc : wc.length = 147) (hI : MI f A) (gx1 : (0 ≤ x1.toInt ∧ x1.toInt ≤ 1)) (gx2 : ((-1) ≤ x2.toInt ∧ x2.toInt ≤ 2)) (gx3 : (0 ≤ x3.toInt ∧ x3.toInt ≤ 30)) (gx4 : (0 ≤ x4.toInt ∧ x4.toInt ≤ 999)) (k_84_0 : ∀ (y5 : Int32) (y6 : Int32), (0 ≤ y6.toInt ∧ y6.toInt ≤ 30) → pmE pg X pg_tyl pg_cl (d + 7) 310 84 [.ref 147, .int x1, .int x2, .int x3, .int x4, .int y5, .int y6] [] (md wc f A) Q) : ∀ (m : Nat) (x5 : Int32) (x6 : Int32), (0 ≤ x6.toInt ∧ x6.toInt ≤ 30) → 30 - x6.toInt < (m : Int) → pmE pg X pg_tyl pg_cl (d + 7) 310 30 [.ref 147, .int x1, .int x2, .int x3, .int x4, .int x5, .int x6] [] (md wc f A) Q := by
  intro m
  induction m with
  | zero =>
    intro x5 x6 gx6 hm
    exfalso
    have l0 := zi_lo x6
    have u0 := zi_hi x6
    omega
  | succ m ih =>
    intro x5 x6 gx6 hm
    refine pe_iload (j := 6) (by decide +kernel) rfl ?_
    refine pe_aload_n (j := 0) (by decide +kernel) rfl ?_
    refine pe_get (j := 175) (ci := 12) (n := 14) (by decide +kernel) (by decide +kernel) (md_o hc) rfl ?_
    have hr_14_f := hI.1 14
    simp only [MF] at hr_14_f
    refine pz_icmp_ge (off := 48) (t := 84) (by decide +kernel) (by decide) rfl rfl rfl (fun h1 => ?_) (fun h1 => ?_)
    · skip
      exact k_84_0 x5 x6 (by omega)
    · skip
      refine pe_iload (j := 5) (by decide +kernel) rfl ?_
      refine pe_aload_n (j := 0) (by decide +kernel) rfl ?_
      refine pe_iload (j := 6) (by decide +kernel) rfl ?_
      refine pi_V (j := 190) (mj := 236) (by decide +kernel) (cll_V (args := [.int x6]) (n := 1) (by decide +kernel) rfl rfl (md_o hc) (by decide +kernel) (Nat.le_of_ble_eq_true rfl) (Nat.le_of_ble_eq_true rfl)) ?_
      show pmE pg X pg_tyl pg_cl (d + 6) 236 0 [.ref 147, .int x6] [] (md wc f A) _
      refine pe_aload_n (j := 0) (by decide +kernel) rfl ?_
      refine pe_get (j := 26) (ci := 12) (n := 13) (by decide +kernel) (by decide +kernel) (md_o hc) rfl ?_
      refine pe_bipushv (n := 10) (v := 10) (by decide +kernel) (by decide +kernel) ?_
      refine pe_iload_n (j := 1) (by decide +kernel) rfl ?_
      refine pz_mul (by decide +kernel) kz_10 rfl (by omega) (by omega) (fun z2 hz2 => ?_)
      refine pe_iconstv (n := 3) (v := 3) (by decide +kernel) (by decide +kernel) ?_
      refine pz_add (by decide +kernel) hz2 kz_3 (by omega) (by omega) (fun z3 hz3 => ?_)
      clear hz2
      refine mz_ld153 (by decide +kernel) hc hI hz3 (by omega) (by omega) (fun v4 ev4 pv4 => ?_)
      clear hz3
      refine pe_iconstv (n := 1) (v := 1) (by decide +kernel) (by decide +kernel) ?_
      have lw6 := zi_lo v4
      have uw6 := zi_hi v4
      refine pz_icmp_ne (off := 7) (t := 19) (by decide +kernel) (by decide) rfl rfl kz_1 (fun h5 => ?_) (fun h5 => ?_)
      · skip
        refine pe_iconstv (n := 0) (v := 0) (by decide +kernel) (by decide +kernel) ?_
        refine pe_iret (by decide +kernel) rfl rfl ⟨rfl, rfl, ?_⟩
        show pmE pg X pg_tyl pg_cl (d + 7) 310 47 [.ref 147, .int x1, .int x2, .int x3, .int x4, .int x5, .int x6] [.int 0, .int x5] (md wc f A) _
        refine pz_if_eq (off := 27) (t := 74) (by decide +kernel) (by decide) rfl kz_0 (fun h7 => ?_) (fun h7 => by omega)
        refine pe_iconstv (n := 0) (v := 0) (by decide +kernel) (by decide +kernel) ?_
        refine pw_or (by decide +kernel) (fun z8 => ?_)
        refine pe_istore (j := 5) (ls' := [.ref 147, .int x1, .int x2, .int x3, .int x4, .int z8, .int x6]) (by decide +kernel) (Nat.le_of_ble_eq_true rfl) rfl ?_
        refine pz_iinc (j := 6) (n := 1) (by decide +kernel) rfl rfl (by decide +kernel) (by omega) (by omega) (fun z9 hz9 => ?_)
        show pmE pg X pg_tyl pg_cl (d + 7) 310 81 [.ref 147, .int x1, .int x2, .int x3, .int x4, .int z8, .int z9] [] (md wc f A) _
        refine pe_goto (off := (-51)) (t := 30) (by decide +kernel) (by decide) rfl ?_
        exact ih z8 z9 (by omega) (by omega)
      · skip
        refine pe_iconstv (n := 1) (v := 1) (by decide +kernel) (by decide +kernel) ?_
        refine pe_goto (off := 4) (t := 20) (by decide +kernel) (by decide) rfl ?_
        refine pe_iret (by decide +kernel) rfl rfl ⟨rfl, rfl, ?_⟩
        show pmE pg X pg_tyl pg_cl (d + 7) 310 47 [.ref 147, .int x1, .int x2, .int x3, .int x4, .int x5, .int x6] [.int 1, .int x5] (md wc f A) _
        refine pz_if_eq (off := 27) (t := 74) (by decide +kernel) (by decide) rfl kz_1 (fun h10 => by omega) (fun h10 => ?_)
        refine pe_aload_n (j := 0) (by decide +kernel) rfl ?_
        refine pe_get (j := 26) (ci := 12) (n := 13) (by decide +kernel) (by decide +kernel) (md_o hc) rfl ?_
        refine pe_bipushv (n := 10) (v := 10) (by decide +kernel) (by decide +kernel) ?_
        refine pe_iload (j := 6) (by decide +kernel) rfl ?_
        refine pz_mul (by decide +kernel) kz_10 rfl (by omega) (by omega) (fun z11 hz11 => ?_)
        refine pe_iconstv (n := 2) (v := 2) (by decide +kernel) (by decide +kernel) ?_
        refine pz_add (by decide +kernel) hz11 kz_2 (by omega) (by omega) (fun z12 hz12 => ?_)
        clear hz11
        refine mz_ld153 (by decide +kernel) hc hI hz12 (by omega) (by omega) (fun v13 ev13 pv13 => ?_)
        clear hz12
        refine pe_iload (j := 4) (by decide +kernel) rfl ?_
        have lw15 := zi_lo v13
        have uw15 := zi_hi v13
        refine pz_icmp_ge (off := 10) (t := 74) (by decide +kernel) (by decide) rfl rfl rfl (fun h14 => ?_) (fun h14 => ?_)
        · skip
          refine pe_iconstv (n := 0) (v := 0) (by decide +kernel) (by decide +kernel) ?_
          refine pw_or (by decide +kernel) (fun z16 => ?_)
          refine pe_istore (j := 5) (ls' := [.ref 147, .int x1, .int x2, .int x3, .int x4, .int z16, .int x6]) (by decide +kernel) (Nat.le_of_ble_eq_true rfl) rfl ?_
          refine pz_iinc (j := 6) (n := 1) (by decide +kernel) rfl rfl (by decide +kernel) (by omega) (by omega) (fun z17 hz17 => ?_)
          show pmE pg X pg_tyl pg_cl (d + 7) 310 81 [.ref 147, .int x1, .int x2, .int x3, .int x4, .int z16, .int z17] [] (md wc f A) _
          refine pe_goto (off := (-51)) (t := 30) (by decide +kernel) (by decide) rfl ?_
          exact ih z16 z17 (by omega) (by omega)
        · skip
          refine pe_iconstv (n := 1) (v := 1) (by decide +kernel) (by decide +kernel) ?_
          refine pe_iload (j := 6) (by decide +kernel) rfl ?_
          refine pw_shl (by decide +kernel) (fun z18 => ?_)
          refine pe_goto (off := 4) (t := 75) (by decide +kernel) (by decide) rfl ?_
          refine pw_or (by decide +kernel) (fun z19 => ?_)
          refine pe_istore (j := 5) (ls' := [.ref 147, .int x1, .int x2, .int x3, .int x4, .int z19, .int x6]) (by decide +kernel) (Nat.le_of_ble_eq_true rfl) rfl ?_
          refine pz_iinc (j := 6) (n := 1) (by decide +kernel) rfl rfl (by decide +kernel) (by omega) (by omega) (fun z20 hz20 => ?_)
          show pmE pg X pg_tyl pg_cl (d + 7) 310 81 [.ref 147, .int x1, .int x2, .int x3, .int x4, .int z19, .int z20] [] (md wc f A) _
          refine pe_goto (off := (-51)) (t := 30) (by decide +kernel) (by decide) rfl ?_
          exact ih z19 z20 (by omega) (by omega)
set_option maxRecDepth 100000 in
set_option maxHeartbeats 8000000 in
theorem MM_310 {X : pm_X} {d : Nat} {wc : pm_W} {f : Nat → Int32} {A : Nat → List Int32} {x1 x2 x3 x4 : Int32} (hc : wc.length = 147) (hI : MI f A) : pmE pg X pg_tyl pg_cl (d + 7) 310 0 (pm_ent (pm_max pg 310) [.ref 147, .int x1, .int x2, .int x3, .int x4]) [] (md wc f A) (fun q => ∃ (f' : Nat → Int32) (A' : Nat → List Int32) (r : Int32), q = (some (.int r), md wc f' A', 0, 0) ∧ MI f' A' ∧ (∀ k : Nat, k ≠ 14 → k ≠ 15 → k ≠ 16 → f' k = f k) ∧ (∀ k : Nat, k ≠ 152 → k ≠ 153 → A' k = A k) ∧ ((True ∧ True))) := by
  show pmE pg X pg_tyl pg_cl (d + 7) 310 0 [.ref 147, .int x1, .int x2, .int x3, .int x4, pm_dead, pm_dead] [] (md wc f A) _
  refine pe_iload (j := 4) (by decide +kernel) rfl ?_
  refine pe_iconstv (n := 0) (v := 0) (by decide +kernel) (by decide +kernel) ?_
  refine pe_sipushv (n := 999) (v := 999) (by decide +kernel) (by decide +kernel) ?_
  refine pi_S (j := 119) (mj := 199) (by decide +kernel) (by decide +kernel) rfl ?_
  show pmE pg X pg_tyl pg_cl (d + 6) 199 0 [.int x4, .int 0, .int 999] [] (md wc f A) _
  refine pe_iload_n (j := 0) (by decide +kernel) rfl ?_
  refine pe_iload_n (j := 1) (by decide +kernel) rfl ?_
  have lw2 := zi_lo x4
  have uw2 := zi_hi x4
  refine pz_icmp_lt (off := 12) (t := 14) (by decide +kernel) (by decide) rfl rfl kz_0 (fun h1 => ?_) (fun h1 => ?_)
  · skip
    refine pe_iconstv (n := 0) (v := 0) (by decide +kernel) (by decide +kernel) ?_
    refine pe_iret (by decide +kernel) rfl rfl ⟨rfl, rfl, ?_⟩
    show pmE pg X pg_tyl pg_cl (d + 7) 310 9 [.ref 147, .int x1, .int x2, .int x3, .int x4, pm_dead, pm_dead] [.int 0] (md wc f A) _
    refine pz_if_eq (off := 13) (t := 22) (by decide +kernel) (by decide) rfl kz_0 (fun h3 => ?_) (fun h3 => by omega)
    refine pe_iconstv (n := (-1)) (v := (-1)) (by decide +kernel) (by decide +kernel) ?_
    exact pe_iret (by decide +kernel) rfl rfl ⟨f, A, (-1), rfl, hI, (fun k n14 n15 n16 => rfl), (fun k n152 n153 => rfl), ⟨trivial, trivial⟩⟩
  · skip
    refine pe_iload_n (j := 0) (by decide +kernel) rfl ?_
    refine pe_iload_n (j := 2) (by decide +kernel) rfl ?_
    refine pz_icmp_gt (off := 7) (t := 14) (by decide +kernel) (by decide) rfl rfl kz_999 (fun h4 => ?_) (fun h4 => ?_)
    · skip
      refine pe_iconstv (n := 0) (v := 0) (by decide +kernel) (by decide +kernel) ?_
      refine pe_iret (by decide +kernel) rfl rfl ⟨rfl, rfl, ?_⟩
      show pmE pg X pg_tyl pg_cl (d + 7) 310 9 [.ref 147, .int x1, .int x2, .int x3, .int x4, pm_dead, pm_dead] [.int 0] (md wc f A) _
      refine pz_if_eq (off := 13) (t := 22) (by decide +kernel) (by decide) rfl kz_0 (fun h5 => ?_) (fun h5 => by omega)
      refine pe_iconstv (n := (-1)) (v := (-1)) (by decide +kernel) (by decide +kernel) ?_
      exact pe_iret (by decide +kernel) rfl rfl ⟨f, A, (-1), rfl, hI, (fun k n14 n15 n16 => rfl), (fun k n152 n153 => rfl), ⟨trivial, trivial⟩⟩
    · skip
      refine pe_iconstv (n := 1) (v := 1) (by decide +kernel) (by decide +kernel) ?_
      refine pe_goto (off := 4) (t := 15) (by decide +kernel) (by decide) rfl ?_
      refine pe_iret (by decide +kernel) rfl rfl ⟨rfl, rfl, ?_⟩
      show pmE pg X pg_tyl pg_cl (d + 7) 310 9 [.ref 147, .int x1, .int x2, .int x3, .int x4, pm_dead, pm_dead] [.int 1] (md wc f A) _
      refine pz_if_eq (off := 13) (t := 22) (by decide +kernel) (by decide) rfl kz_1 (fun h6 => by omega) (fun h6 => ?_)
      refine pe_aload_n (j := 0) (by decide +kernel) rfl ?_
      refine pe_iload_n (j := 1) (by decide +kernel) rfl ?_
      refine pe_iload_n (j := 2) (by decide +kernel) rfl ?_
      refine pe_iload_n (j := 3) (by decide +kernel) rfl ?_
      refine pz_callV (j := 232) (mj := 246) (by decide +kernel) (cll_V (args := [.int x3, .int x2, .int x1]) (n := 3) (by decide +kernel) rfl rfl (md_o hc) (by decide +kernel) (Nat.le_of_ble_eq_true rfl) (Nat.le_of_ble_eq_true rfl)) (MM_246 hc hI) (fun q7a q7b q7c q7d hqq7 => ?_)
      obtain ⟨f8, A9, rq7, eq7, hIq7, hGq7, hFq7, kq7⟩ := hqq7
      cases eq7
      refine ⟨rfl, rfl, ?_⟩
      rcases kq7 with kq7 | kq7
      · skip
        obtain ⟨erq7, kq7⟩ := kq7
        subst erq7
        show pmE pg X pg_tyl pg_cl (d + 7) 310 19 [.ref 147, .int x1, .int x2, .int x3, .int x4, pm_dead, pm_dead] [.int 0] (md wc f8 A9) _
        refine pz_if_ne (off := 5) (t := 24) (by decide +kernel) (by decide) rfl kz_0 (fun h10 => by omega) (fun h10 => ?_)
        refine pe_iconstv (n := (-1)) (v := (-1)) (by decide +kernel) (by decide +kernel) ?_
        exact pe_iret (by decide +kernel) rfl rfl ⟨f8, A9, (-1), rfl, hIq7, (fun k n14 n15 n16 => (hGq7 k n14 n15 n16)), (fun k n152 n153 => (hFq7 k n152 n153)), ⟨trivial, trivial⟩⟩
      · skip
        obtain ⟨erq7, kq7⟩ := kq7
        subst erq7
        show pmE pg X pg_tyl pg_cl (d + 7) 310 19 [.ref 147, .int x1, .int x2, .int x3, .int x4, pm_dead, pm_dead] [.int 1] (md wc f8 A9) _
        refine pz_if_ne (off := 5) (t := 24) (by decide +kernel) (by decide) rfl kz_1 (fun h11 => ?_) (fun h11 => by omega)
        refine pe_iconstv (n := 0) (v := 0) (by decide +kernel) (by decide +kernel) ?_
        refine pe_istore (j := 5) (ls' := [.ref 147, .int x1, .int x2, .int x3, .int x4, .int 0, pm_dead]) (by decide +kernel) (Nat.le_of_ble_eq_true rfl) rfl ?_
        refine pe_iconstv (n := 0) (v := 0) (by decide +kernel) (by decide +kernel) ?_
        refine pe_istore (j := 6) (ls' := [.ref 147, .int x1, .int x2, .int x3, .int x4, .int 0, .int 0]) (by decide +kernel) (Nat.le_of_ble_eq_true rfl) rfl ?_
        refine ML_310_30 hc hIq7 (by omega) (by omega) (by omega) (by omega) (fun y12 y13 gy13 => ?_) 31 0 0 (by decide +kernel) (by decide +kernel)
        refine pe_iload (j := 5) (by decide +kernel) rfl ?_
        exact pe_iret (by decide +kernel) rfl rfl ⟨f8, A9, y12, rfl, hIq7, (fun k n14 n15 n16 => (hGq7 k n14 n15 n16)), (fun k n152 n153 => (hFq7 k n152 n153)), ⟨trivial, trivial⟩⟩
set_option maxRecDepth 100000 in
set_option maxHeartbeats 8000000 in
theorem ML_298_42 {X : pm_X} {d : Nat} {wc : pm_W} {Q : pm_R → Prop} {f : Nat → Int32} {A : Nat → List Int32} {x1 x2 x3 x4 x5 x6 x8 : Int32} (hc : wc.length = 147) (hI : MI f A) (gx1 : (0 ≤ x1.toInt ∧ x1.toInt ≤ 1)) (gx2 : ((-1) ≤ x2.toInt ∧ x2.toInt ≤ 2)) (gx3 : (0 ≤ x3.toInt ∧ x3.toInt ≤ 30)) (gx4 : (0 ≤ x4.toInt ∧ x4.toInt ≤ 8)) (gx8 : (0 ≤ x8.toInt ∧ x8.toInt ≤ 29)) (k_93_0 : ∀ (y7 : Int32) (y9 : Int32), (0 ≤ y9.toInt ∧ y9.toInt ≤ 6) → pmE pg X pg_tyl pg_cl (d + 8) 298 93 [.ref 147, .int x1, .int x2, .int x3, .int x4, .int x5, .int x6, .int y7, .int x8, .int y9] [] (md wc f A) Q) : ∀ (m : Nat) (x7 : Int32) (x9 : Int32), (0 ≤ x9.toInt ∧ x9.toInt ≤ 6) → 6 - x9.toInt < (m : Int) → pmE pg X pg_tyl pg_cl (d + 8) 298 42 [.ref 147, .int x1, .int x2, .int x3, .int x4, .int x5, .int x6, .int x7, .int x8, .int x9] [] (md wc f A) Q := by
  intro m
  induction m with
  | zero =>
    intro x7 x9 gx9 hm
    exfalso
    have l0 := zi_lo x9
    have u0 := zi_hi x9
    omega
  | succ m ih =>
    intro x7 x9 gx9 hm
    refine pe_iload (j := 9) (by decide +kernel) rfl ?_
    refine pe_aload_n (j := 0) (by decide +kernel) rfl ?_
    refine pe_get (j := 26) (ci := 12) (n := 13) (by decide +kernel) (by decide +kernel) (md_o hc) rfl ?_
    refine pe_bipushv (n := 10) (v := 10) (by decide +kernel) (by decide +kernel) ?_
    refine pe_iload (j := 8) (by decide +kernel) rfl ?_
    refine pz_mul (by decide +kernel) kz_10 rfl (by omega) (by omega) (fun z1 hz1 => ?_)
    refine mz_ld153 (by decide +kernel) hc hI hz1 (by omega) (by omega) (fun v2 ev2 pv2 => ?_)
    have rv2 : 0 ≤ v2.toInt ∧ v2.toInt ≤ 6 := by have p := pv2; simp only [MP_rings] at p; omega
    clear hz1
    refine pz_icmp_ge (off := 39) (t := 93) (by decide +kernel) (by decide) rfl rfl rfl (fun h3 => ?_) (fun h3 => ?_)
    · skip
      exact k_93_0 x7 x9 (by omega)
    · skip
      refine pe_iload (j := 7) (by decide +kernel) rfl ?_
      refine pe_iload (j := 6) (by decide +kernel) rfl ?_
      refine pe_iload (j := 8) (by decide +kernel) rfl ?_
      refine pw_shr (by decide +kernel) (fun z4 => ?_)
      refine pe_iconstv (n := 1) (v := 1) (by decide +kernel) (by decide +kernel) ?_
      refine pz_and1 (by decide +kernel) (fun z5 hz5 => ?_)
      refine pe_iconstv (n := 1) (v := 1) (by decide +kernel) (by decide +kernel) ?_
      refine pz_icmp_ne (off := 16) (t := 83) (by decide +kernel) (by decide) rfl rfl kz_1 (fun h6 => ?_) (fun h6 => ?_)
      · skip
        refine pe_iconstv (n := 0) (v := 0) (by decide +kernel) (by decide +kernel) ?_
        refine pw_or (by decide +kernel) (fun z7 => ?_)
        refine pe_istore (j := 7) (ls' := [.ref 147, .int x1, .int x2, .int x3, .int x4, .int x5, .int x6, .int z7, .int x8, .int x9]) (by decide +kernel) (Nat.le_of_ble_eq_true rfl) rfl ?_
        refine pz_iinc (j := 9) (n := 1) (by decide +kernel) rfl rfl (by decide +kernel) (by omega) (by omega) (fun z8 hz8 => ?_)
        show pmE pg X pg_tyl pg_cl (d + 8) 298 90 [.ref 147, .int x1, .int x2, .int x3, .int x4, .int x5, .int x6, .int z7, .int x8, .int z8] [] (md wc f A) _
        refine pe_goto (off := (-48)) (t := 42) (by decide +kernel) (by decide) rfl ?_
        exact ih z7 z8 (by omega) (by omega)
      · skip
        refine pe_iconstv (n := 1) (v := 1) (by decide +kernel) (by decide +kernel) ?_
        refine pe_aload_n (j := 0) (by decide +kernel) rfl ?_
        refine pe_iload (j := 8) (by decide +kernel) rfl ?_
        refine pe_iload (j := 9) (by decide +kernel) rfl ?_
        refine pi_V (j := 184) (mj := 234) (by decide +kernel) (cll_V (args := [.int x9, .int x8]) (n := 2) (by decide +kernel) rfl rfl (md_o hc) (by decide +kernel) (Nat.le_of_ble_eq_true rfl) (Nat.le_of_ble_eq_true rfl)) ?_
        show pmE pg X pg_tyl pg_cl (d + 7) 234 0 [.ref 147, .int x8, .int x9] [] (md wc f A) _
        refine pe_aload_n (j := 0) (by decide +kernel) rfl ?_
        refine pe_get (j := 26) (ci := 12) (n := 13) (by decide +kernel) (by decide +kernel) (md_o hc) rfl ?_
        refine pe_bipushv (n := 10) (v := 10) (by decide +kernel) (by decide +kernel) ?_
        refine pe_iload_n (j := 1) (by decide +kernel) rfl ?_
        refine pz_mul (by decide +kernel) kz_10 rfl (by omega) (by omega) (fun z9 hz9 => ?_)
        refine pe_iconstv (n := 4) (v := 4) (by decide +kernel) (by decide +kernel) ?_
        refine pz_add (by decide +kernel) hz9 kz_4 (by omega) (by omega) (fun z10 hz10 => ?_)
        clear hz9
        refine pe_iload_n (j := 2) (by decide +kernel) rfl ?_
        refine pz_add (by decide +kernel) hz10 rfl (by omega) (by omega) (fun z11 hz11 => ?_)
        clear hz10
        refine mz_ld153 (by decide +kernel) hc hI hz11 (by omega) (by omega) (fun v12 ev12 pv12 => ?_)
        have rv12 : 0 ≤ v12.toInt ∧ v12.toInt ≤ 8 := by have p := pv12; simp only [MP_rings] at p; omega
        clear hz11
        refine pe_iret (by decide +kernel) rfl rfl ⟨rfl, rfl, ?_⟩
        show pmE pg X pg_tyl pg_cl (d + 8) 298 79 [.ref 147, .int x1, .int x2, .int x3, .int x4, .int x5, .int x6, .int x7, .int x8, .int x9] [.int v12, .int 1, .int x7] (md wc f A) _
        refine pz_shl1 (by decide +kernel) rfl (by omega) (by omega) (fun z13 hz13 => ?_)
        refine pe_goto (off := 4) (t := 84) (by decide +kernel) (by decide) rfl ?_
        refine pw_or (by decide +kernel) (fun z14 => ?_)
        refine pe_istore (j := 7) (ls' := [.ref 147, .int x1, .int x2, .int x3, .int x4, .int x5, .int x6, .int z14, .int x8, .int x9]) (by decide +kernel) (Nat.le_of_ble_eq_true rfl) rfl ?_
        refine pz_iinc (j := 9) (n := 1) (by decide +kernel) rfl rfl (by decide +kernel) (by omega) (by omega) (fun z15 hz15 => ?_)
        show pmE pg X pg_tyl pg_cl (d + 8) 298 90 [.ref 147, .int x1, .int x2, .int x3, .int x4, .int x5, .int x6, .int z14, .int x8, .int z15] [] (md wc f A) _
        refine pe_goto (off := (-48)) (t := 42) (by decide +kernel) (by decide) rfl ?_
        exact ih z14 z15 (by omega) (by omega)
set_option maxRecDepth 100000 in
set_option maxHeartbeats 8000000 in
theorem ML_298_30 {X : pm_X} {d : Nat} {wc : pm_W} {Q : pm_R → Prop} {f : Nat → Int32} {A : Nat → List Int32} {x1 x2 x3 x4 x5 x6 : Int32} (hc : wc.length = 147) (hI : MI f A) (gx1 : (0 ≤ x1.toInt ∧ x1.toInt ≤ 1)) (gx2 : ((-1) ≤ x2.toInt ∧ x2.toInt ≤ 2)) (gx3 : (0 ≤ x3.toInt ∧ x3.toInt ≤ 30)) (gx4 : (0 ≤ x4.toInt ∧ x4.toInt ≤ 8)) (k_99_0 : ∀ (y7 : Int32) (y8 : Int32) (v9 : Value), (0 ≤ y8.toInt ∧ y8.toInt ≤ 30) → pmE pg X pg_tyl pg_cl (d + 8) 298 99 [.ref 147, .int x1, .int x2, .int x3, .int x4, .int x5, .int x6, .int y7, .int y8, v9] [] (md wc f A) Q) : ∀ (m : Nat) (x7 : Int32) (x8 : Int32) (u9 : Value), (0 ≤ x8.toInt ∧ x8.toInt ≤ 30) → 30 - x8.toInt < (m : Int) → pmE pg X pg_tyl pg_cl (d + 8) 298 30 [.ref 147, .int x1, .int x2, .int x3, .int x4, .int x5, .int x6, .int x7, .int x8, u9] [] (md wc f A) Q := by
  intro m
  induction m with
  | zero =>
    intro x7 x8 u9 gx8 hm
    exfalso
    have l0 := zi_lo x8
    have u0 := zi_hi x8
    omega
  | succ m ih =>
    intro x7 x8 u9 gx8 hm
    refine pe_iload (j := 8) (by decide +kernel) rfl ?_
    refine pe_aload_n (j := 0) (by decide +kernel) rfl ?_
    refine pe_get (j := 175) (ci := 12) (n := 14) (by decide +kernel) (by decide +kernel) (md_o hc) rfl ?_
    have hr_14_f := hI.1 14
    simp only [MF] at hr_14_f
    refine pz_icmp_ge (off := 63) (t := 99) (by decide +kernel) (by decide) rfl rfl rfl (fun h1 => ?_) (fun h1 => ?_)
    · skip
      exact k_99_0 x7 x8 (u9) (by omega)
    · skip
      refine pe_iconstv (n := 0) (v := 0) (by decide +kernel) (by decide +kernel) ?_
      refine pe_istore (j := 9) (ls' := [.ref 147, .int x1, .int x2, .int x3, .int x4, .int x5, .int x6, .int x7, .int x8, .int 0]) (by decide +kernel) (Nat.le_of_ble_eq_true rfl) rfl ?_
      refine ML_298_42 hc hI (by omega) (by omega) (by omega) (by omega) (by omega) (fun y2 y3 gy3 => ?_) 7 x7 0 (by decide +kernel) (by decide +kernel)
      refine pz_iinc (j := 8) (n := 1) (by decide +kernel) rfl rfl (by decide +kernel) (by omega) (by omega) (fun z4 hz4 => ?_)
      show pmE pg X pg_tyl pg_cl (d + 8) 298 96 [.ref 147, .int x1, .int x2, .int x3, .int x4, .int x5, .int x6, .int y2, .int z4, .int y3] [] (md wc f A) _
      refine pe_goto (off := (-66)) (t := 30) (by decide +kernel) (by decide) rfl ?_
      exact ih y2 z4 (.int y3) (by omega) (by omega)
set_option maxRecDepth 100000 in
set_option maxHeartbeats 8000000 in
theorem MM_298 {X : pm_X} {d : Nat} {wc : pm_W} {f : Nat → Int32} {A : Nat → List Int32} {x1 x2 x3 x4 x5 : Int32} (hc : wc.length = 147) (hI : MI f A) : pmE pg X pg_tyl pg_cl (d + 8) 298 0 (pm_ent (pm_max pg 298) [.ref 147, .int x1, .int x2, .int x3, .int x4, .int x5]) [] (md wc f A) (fun q => ∃ (f' : Nat → Int32) (A' : Nat → List Int32) (r : Int32), q = (some (.int r), md wc f' A', 0, 0) ∧ MI f' A' ∧ (∀ k : Nat, k ≠ 14 → k ≠ 15 → k ≠ 16 → f' k = f k) ∧ (∀ k : Nat, k ≠ 152 → k ≠ 153 → A' k = A k) ∧ ((True ∧ True))) := by
  show pmE pg X pg_tyl pg_cl (d + 8) 298 0 [.ref 147, .int x1, .int x2, .int x3, .int x4, .int x5, pm_dead, pm_dead, pm_dead, pm_dead] [] (md wc f A) _
  refine pe_aload_n (j := 0) (by decide +kernel) rfl ?_
  refine pe_iload_n (j := 1) (by decide +kernel) rfl ?_
  refine pe_iload_n (j := 2) (by decide +kernel) rfl ?_
  refine pe_iload_n (j := 3) (by decide +kernel) rfl ?_
  refine pe_iload (j := 4) (by decide +kernel) rfl ?_
  refine pe_iload (j := 4) (by decide +kernel) rfl ?_
  refine pz_callV (j := 235) (mj := 245) (by decide +kernel) (cll_V (args := [.int x4, .int x4, .int x3, .int x2, .int x1]) (n := 5) (by decide +kernel) rfl rfl (md_o hc) (by decide +kernel) (Nat.le_of_ble_eq_true rfl) (Nat.le_of_ble_eq_true rfl)) (MM_245 hc hI) (fun q1a q1b q1c q1d hqq1 => ?_)
  obtain ⟨f2, A3, rq1, eq1, hIq1, hGq1, hFq1, kq1⟩ := hqq1
  cases eq1
  refine ⟨rfl, rfl, ?_⟩
  rcases kq1 with kq1 | kq1
  · skip
    obtain ⟨erq1, kq1⟩ := kq1
    subst erq1
    show pmE pg X pg_tyl pg_cl (d + 8) 298 11 [.ref 147, .int x1, .int x2, .int x3, .int x4, .int x5, pm_dead, pm_dead, pm_dead, pm_dead] [.int 0] (md wc f2 A3) _
    refine pz_if_ne (off := 5) (t := 16) (by decide +kernel) (by decide) rfl kz_0 (fun h4 => by omega) (fun h4 => ?_)
    refine pe_iconstv (n := (-1)) (v := (-1)) (by decide +kernel) (by decide +kernel) ?_
    exact pe_iret (by decide +kernel) rfl rfl ⟨f2, A3, (-1), rfl, hIq1, (fun k n14 n15 n16 => (hGq1 k n14 n15 n16)), (fun k n152 n153 => (hFq1 k n152 n153)), ⟨trivial, trivial⟩⟩
  · skip
    obtain ⟨erq1, kq1⟩ := kq1
    subst erq1
    show pmE pg X pg_tyl pg_cl (d + 8) 298 11 [.ref 147, .int x1, .int x2, .int x3, .int x4, .int x5, pm_dead, pm_dead, pm_dead, pm_dead] [.int 1] (md wc f2 A3) _
    refine pz_if_ne (off := 5) (t := 16) (by decide +kernel) (by decide) rfl kz_1 (fun h5 => ?_) (fun h5 => by omega)
    refine pe_aload_n (j := 0) (by decide +kernel) rfl ?_
    refine pe_iload (j := 4) (by decide +kernel) rfl ?_
    refine pz_callV (j := 361) (mj := 299) (by decide +kernel) (cll_V (args := [.int x4]) (n := 1) (by decide +kernel) rfl rfl (md_o hc) (by decide +kernel) (Nat.le_of_ble_eq_true rfl) (Nat.le_of_ble_eq_true rfl)) (MM_299 hc hIq1) (fun q6a q6b q6c q6d hqq6 => ?_)
    obtain ⟨rq6, eq6, kq6⟩ := hqq6
    cases eq6
    refine ⟨rfl, rfl, ?_⟩
    show pmE pg X pg_tyl pg_cl (d + 8) 298 22 [.ref 147, .int x1, .int x2, .int x3, .int x4, .int x5, pm_dead, pm_dead, pm_dead, pm_dead] [.int rq6] (md wc f2 A3) _
    refine pe_istore (j := 6) (ls' := [.ref 147, .int x1, .int x2, .int x3, .int x4, .int x5, .int rq6, pm_dead, pm_dead, pm_dead]) (by decide +kernel) (Nat.le_of_ble_eq_true rfl) rfl ?_
    refine pe_iconstv (n := 0) (v := 0) (by decide +kernel) (by decide +kernel) ?_
    refine pe_istore (j := 7) (ls' := [.ref 147, .int x1, .int x2, .int x3, .int x4, .int x5, .int rq6, .int 0, pm_dead, pm_dead]) (by decide +kernel) (Nat.le_of_ble_eq_true rfl) rfl ?_
    refine pe_iconstv (n := 0) (v := 0) (by decide +kernel) (by decide +kernel) ?_
    refine pe_istore (j := 8) (ls' := [.ref 147, .int x1, .int x2, .int x3, .int x4, .int x5, .int rq6, .int 0, .int 0, pm_dead]) (by decide +kernel) (Nat.le_of_ble_eq_true rfl) rfl ?_
    refine ML_298_30 hc hIq1 (by omega) (by omega) (by omega) (by omega) (fun y7 y8 u9 gy8 => ?_) 31 0 0 (pm_dead) (by decide +kernel) (by decide +kernel)
    refine pe_iload (j := 5) (by decide +kernel) rfl ?_
    have lw11 := zi_lo x5
    have uw11 := zi_hi x5
    refine pz_if_eq (off := 15) (t := 116) (by decide +kernel) (by decide) rfl rfl (fun h10 => ?_) (fun h10 => ?_)
    · skip
      refine pe_iload (j := 6) (by decide +kernel) rfl ?_
      exact pe_iret (by decide +kernel) rfl rfl ⟨f2, A3, rq6, rfl, hIq1, (fun k n14 n15 n16 => (hGq1 k n14 n15 n16)), (fun k n152 n153 => (hFq1 k n152 n153)), ⟨trivial, trivial⟩⟩
    · skip
      refine pe_iload (j := 7) (by decide +kernel) rfl ?_
      refine pe_iconstv (n := 1) (v := 1) (by decide +kernel) (by decide +kernel) ?_
      refine pe_iload (j := 4) (by decide +kernel) rfl ?_
      refine pz_shl1 (by decide +kernel) rfl (by omega) (by omega) (fun z12 hz12 => ?_)
      refine pe_iconstv (n := (-1)) (v := (-1)) (by decide +kernel) (by decide +kernel) ?_
      refine pw_xor (by decide +kernel) (fun z13 => ?_)
      refine pw_and (by decide +kernel) (fun z14 => ?_)
      refine pe_goto (off := 5) (t := 118) (by decide +kernel) (by decide) rfl ?_
      exact pe_iret (by decide +kernel) rfl rfl ⟨f2, A3, z14, rfl, hIq1, (fun k n14 n15 n16 => (hGq1 k n14 n15 n16)), (fun k n152 n153 => (hFq1 k n152 n153)), ⟨trivial, trivial⟩⟩
set_option maxRecDepth 100000 in
set_option maxHeartbeats 8000000 in
theorem ML_300_92 {X : pm_X} {d : Nat} {wc : pm_W} {Q : pm_R → Prop} {f : Nat → Int32} {A : Nat → List Int32} {x1 x2 x3 x4 x5 x6 x7 x8 x9 x11 : Int32} (hc : wc.length = 147) (hI : MI f A) (gx1 : (0 ≤ x1.toInt ∧ x1.toInt ≤ 1)) (gx2 : ((-1) ≤ x2.toInt ∧ x2.toInt ≤ 2)) (gx3 : (0 ≤ x3.toInt ∧ x3.toInt ≤ 30)) (gx4 : (0 ≤ x4.toInt ∧ x4.toInt ≤ 8)) (gx5 : (0 ≤ x5.toInt ∧ x5.toInt ≤ 8)) (gx6 : (1 ≤ x6.toInt ∧ x6.toInt ≤ 99)) (gx7 : (610 ≤ x7.toInt ∧ x7.toInt ≤ 742 ∧ (x7.toInt - 610) % 132 = 0)) (gx9 : (1 ≤ x9.toInt ∧ x9.toInt ≤ 9)) (gx11 : (0 ≤ x11.toInt ∧ x11.toInt ≤ 8)) (k_170_0 : ∀ (y10 : Int32) (y12 : Int32), (0 ≤ y12.toInt ∧ y12.toInt ≤ 9) → pmE pg X pg_tyl pg_cl (d + 8) 300 170 [.ref 147, .int x1, .int x2, .int x3, .int x4, .int x5, .int x6, .int x7, .int x8, .int x9, .int y10, .int x11, .int y12] [] (md wc f A) Q) : ∀ (m : Nat) (x10 : Int32) (x12 : Int32), (0 ≤ x12.toInt ∧ x12.toInt ≤ 9) → 9 - x12.toInt < (m : Int) → pmE pg X pg_tyl pg_cl (d + 8) 300 92 [.ref 147, .int x1, .int x2, .int x3, .int x4, .int x5, .int x6, .int x7, .int x8, .int x9, .int x10, .int x11, .int x12] [] (md wc f A) Q := by
  intro m
  induction m with
  | zero =>
    intro x10 x12 gx12 hm
    exfalso
    have l0 := zi_lo x12
    have u0 := zi_hi x12
    omega
  | succ m ih =>
    intro x10 x12 gx12 hm
    refine pe_iload (j := 12) (by decide +kernel) rfl ?_
    refine pe_aload_n (j := 0) (by decide +kernel) rfl ?_
    refine pe_get (j := 7) (ci := 12) (n := 0) (by decide +kernel) (by decide +kernel) (md_o hc) rfl ?_
    refine pe_iload (j := 7) (by decide +kernel) rfl ?_
    refine mz_ld148 (by decide +kernel) hc hI rfl (by omega) (by omega) (fun v1 ev1 pv1 => ?_)
    have rv1 : 0 ≤ v1.toInt ∧ v1.toInt ≤ 9 := MT_people pv1 (by omega)
    clear pv1
    refine pz_icmp_ge (off := 69) (t := 170) (by decide +kernel) (by decide) rfl rfl rfl (fun h2 => ?_) (fun h2 => ?_)
    · skip
      exact k_170_0 x10 x12 (by omega)
    · skip
      refine pe_iload (j := 10) (by decide +kernel) rfl ?_
      refine pe_iload (j := 8) (by decide +kernel) rfl ?_
      refine pe_iload (j := 11) (by decide +kernel) rfl ?_
      refine pw_shr (by decide +kernel) (fun z3 => ?_)
      refine pe_iconstv (n := 1) (v := 1) (by decide +kernel) (by decide +kernel) ?_
      refine pz_and1 (by decide +kernel) (fun z4 hz4 => ?_)
      refine pe_iconstv (n := 1) (v := 1) (by decide +kernel) (by decide +kernel) ?_
      refine pz_icmp_ne (off := 46) (t := 160) (by decide +kernel) (by decide) rfl rfl kz_1 (fun h5 => ?_) (fun h5 => ?_)
      · skip
        refine pe_iconstv (n := 0) (v := 0) (by decide +kernel) (by decide +kernel) ?_
        refine pw_or (by decide +kernel) (fun z6 => ?_)
        refine pe_istore (j := 10) (ls' := [.ref 147, .int x1, .int x2, .int x3, .int x4, .int x5, .int x6, .int x7, .int x8, .int x9, .int z6, .int x11, .int x12]) (by decide +kernel) (Nat.le_of_ble_eq_true rfl) rfl ?_
        refine pz_iinc (j := 12) (n := 1) (by decide +kernel) rfl rfl (by decide +kernel) (by omega) (by omega) (fun z7 hz7 => ?_)
        show pmE pg X pg_tyl pg_cl (d + 8) 300 167 [.ref 147, .int x1, .int x2, .int x3, .int x4, .int x5, .int x6, .int x7, .int x8, .int x9, .int z6, .int x11, .int z7] [] (md wc f A) _
        refine pe_goto (off := (-75)) (t := 92) (by decide +kernel) (by decide) rfl ?_
        exact ih z6 z7 (by omega) (by omega)
      · skip
        refine pe_iload (j := 11) (by decide +kernel) rfl ?_
        refine pe_iload (j := 12) (by decide +kernel) rfl ?_
        refine pz_icmp_eq (off := 39) (t := 160) (by decide +kernel) (by decide) rfl rfl rfl (fun h8 => ?_) (fun h8 => ?_)
        · skip
          refine pe_iconstv (n := 0) (v := 0) (by decide +kernel) (by decide +kernel) ?_
          refine pw_or (by decide +kernel) (fun z9 => ?_)
          refine pe_istore (j := 10) (ls' := [.ref 147, .int x1, .int x2, .int x3, .int x4, .int x5, .int x6, .int x7, .int x8, .int x9, .int z9, .int x11, .int x12]) (by decide +kernel) (Nat.le_of_ble_eq_true rfl) rfl ?_
          refine pz_iinc (j := 12) (n := 1) (by decide +kernel) rfl rfl (by decide +kernel) (by omega) (by omega) (fun z10 hz10 => ?_)
          show pmE pg X pg_tyl pg_cl (d + 8) 300 167 [.ref 147, .int x1, .int x2, .int x3, .int x4, .int x5, .int x6, .int x7, .int x8, .int x9, .int z9, .int x11, .int z10] [] (md wc f A) _
          refine pe_goto (off := (-75)) (t := 92) (by decide +kernel) (by decide) rfl ?_
          exact ih z9 z10 (by omega) (by omega)
        · skip
          refine pe_iload (j := 11) (by decide +kernel) rfl ?_
          refine pe_iload (j := 4) (by decide +kernel) rfl ?_
          refine pz_icmp_ne (off := 10) (t := 138) (by decide +kernel) (by decide) rfl rfl rfl (fun h11 => ?_) (fun h11 => ?_)
          · skip
            refine pe_aload_n (j := 0) (by decide +kernel) rfl ?_
            refine pe_iload (j := 7) (by decide +kernel) rfl ?_
            refine pe_iload (j := 11) (by decide +kernel) rfl ?_
            refine pe_iload (j := 12) (by decide +kernel) rfl ?_
            refine pz_callV (j := 199) (mj := 231) (by decide +kernel) (cll_V (args := [.int x12, .int x11, .int x7]) (n := 3) (by decide +kernel) rfl rfl (md_o hc) (by decide +kernel) (Nat.le_of_ble_eq_true rfl) (Nat.le_of_ble_eq_true rfl)) (MM_231 hc hI (by omega) (by omega) (by omega)) (fun q12a q12b q12c q12d hqq12 => ?_)
            obtain ⟨rq12, eq12, kq12⟩ := hqq12
            cases eq12
            refine ⟨rfl, rfl, ?_⟩
            show pmE pg X pg_tyl pg_cl (d + 8) 300 148 [.ref 147, .int x1, .int x2, .int x3, .int x4, .int x5, .int x6, .int x7, .int x8, .int x9, .int x10, .int x11, .int x12] [.int rq12, .int x10] (md wc f A) _
            refine pe_iload (j := 6) (by decide +kernel) rfl ?_
            have lw14 := zi_lo rq12
            have uw14 := zi_hi rq12
            refine pz_icmp_lt (off := 10) (t := 160) (by decide +kernel) (by decide) rfl rfl rfl (fun h13 => ?_) (fun h13 => ?_)
            · skip
              refine pe_iconstv (n := 0) (v := 0) (by decide +kernel) (by decide +kernel) ?_
              refine pw_or (by decide +kernel) (fun z15 => ?_)
              refine pe_istore (j := 10) (ls' := [.ref 147, .int x1, .int x2, .int x3, .int x4, .int x5, .int x6, .int x7, .int x8, .int x9, .int z15, .int x11, .int x12]) (by decide +kernel) (Nat.le_of_ble_eq_true rfl) rfl ?_
              refine pz_iinc (j := 12) (n := 1) (by decide +kernel) rfl rfl (by decide +kernel) (by omega) (by omega) (fun z16 hz16 => ?_)
              show pmE pg X pg_tyl pg_cl (d + 8) 300 167 [.ref 147, .int x1, .int x2, .int x3, .int x4, .int x5, .int x6, .int x7, .int x8, .int x9, .int z15, .int x11, .int z16] [] (md wc f A) _
              refine pe_goto (off := (-75)) (t := 92) (by decide +kernel) (by decide) rfl ?_
              exact ih z15 z16 (by omega) (by omega)
            · skip
              refine pe_iconstv (n := 1) (v := 1) (by decide +kernel) (by decide +kernel) ?_
              refine pe_iload (j := 12) (by decide +kernel) rfl ?_
              refine pz_shl1 (by decide +kernel) rfl (by omega) (by omega) (fun z17 hz17 => ?_)
              refine pe_goto (off := 4) (t := 161) (by decide +kernel) (by decide) rfl ?_
              refine pw_or (by decide +kernel) (fun z18 => ?_)
              refine pe_istore (j := 10) (ls' := [.ref 147, .int x1, .int x2, .int x3, .int x4, .int x5, .int x6, .int x7, .int x8, .int x9, .int z18, .int x11, .int x12]) (by decide +kernel) (Nat.le_of_ble_eq_true rfl) rfl ?_
              refine pz_iinc (j := 12) (n := 1) (by decide +kernel) rfl rfl (by decide +kernel) (by omega) (by omega) (fun z19 hz19 => ?_)
              show pmE pg X pg_tyl pg_cl (d + 8) 300 167 [.ref 147, .int x1, .int x2, .int x3, .int x4, .int x5, .int x6, .int x7, .int x8, .int x9, .int z18, .int x11, .int z19] [] (md wc f A) _
              refine pe_goto (off := (-75)) (t := 92) (by decide +kernel) (by decide) rfl ?_
              exact ih z18 z19 (by omega) (by omega)
          · skip
            refine pe_iload (j := 12) (by decide +kernel) rfl ?_
            refine pe_iload (j := 5) (by decide +kernel) rfl ?_
            refine pz_icmp_eq (off := 25) (t := 160) (by decide +kernel) (by decide) rfl rfl rfl (fun h20 => ?_) (fun h20 => ?_)
            · skip
              refine pe_iconstv (n := 0) (v := 0) (by decide +kernel) (by decide +kernel) ?_
              refine pw_or (by decide +kernel) (fun z21 => ?_)
              refine pe_istore (j := 10) (ls' := [.ref 147, .int x1, .int x2, .int x3, .int x4, .int x5, .int x6, .int x7, .int x8, .int x9, .int z21, .int x11, .int x12]) (by decide +kernel) (Nat.le_of_ble_eq_true rfl) rfl ?_
              refine pz_iinc (j := 12) (n := 1) (by decide +kernel) rfl rfl (by decide +kernel) (by omega) (by omega) (fun z22 hz22 => ?_)
              show pmE pg X pg_tyl pg_cl (d + 8) 300 167 [.ref 147, .int x1, .int x2, .int x3, .int x4, .int x5, .int x6, .int x7, .int x8, .int x9, .int z21, .int x11, .int z22] [] (md wc f A) _
              refine pe_goto (off := (-75)) (t := 92) (by decide +kernel) (by decide) rfl ?_
              exact ih z21 z22 (by omega) (by omega)
            · skip
              refine pe_aload_n (j := 0) (by decide +kernel) rfl ?_
              refine pe_iload (j := 7) (by decide +kernel) rfl ?_
              refine pe_iload (j := 11) (by decide +kernel) rfl ?_
              refine pe_iload (j := 12) (by decide +kernel) rfl ?_
              refine pz_callV (j := 199) (mj := 231) (by decide +kernel) (cll_V (args := [.int x12, .int x11, .int x7]) (n := 3) (by decide +kernel) rfl rfl (md_o hc) (by decide +kernel) (Nat.le_of_ble_eq_true rfl) (Nat.le_of_ble_eq_true rfl)) (MM_231 hc hI (by omega) (by omega) (by omega)) (fun q23a q23b q23c q23d hqq23 => ?_)
              obtain ⟨rq23, eq23, kq23⟩ := hqq23
              cases eq23
              refine ⟨rfl, rfl, ?_⟩
              show pmE pg X pg_tyl pg_cl (d + 8) 300 148 [.ref 147, .int x1, .int x2, .int x3, .int x4, .int x5, .int x6, .int x7, .int x8, .int x9, .int x10, .int x11, .int x12] [.int rq23, .int x10] (md wc f A) _
              refine pe_iload (j := 6) (by decide +kernel) rfl ?_
              have lw25 := zi_lo rq23
              have uw25 := zi_hi rq23
              refine pz_icmp_lt (off := 10) (t := 160) (by decide +kernel) (by decide) rfl rfl rfl (fun h24 => ?_) (fun h24 => ?_)
              · skip
                refine pe_iconstv (n := 0) (v := 0) (by decide +kernel) (by decide +kernel) ?_
                refine pw_or (by decide +kernel) (fun z26 => ?_)
                refine pe_istore (j := 10) (ls' := [.ref 147, .int x1, .int x2, .int x3, .int x4, .int x5, .int x6, .int x7, .int x8, .int x9, .int z26, .int x11, .int x12]) (by decide +kernel) (Nat.le_of_ble_eq_true rfl) rfl ?_
                refine pz_iinc (j := 12) (n := 1) (by decide +kernel) rfl rfl (by decide +kernel) (by omega) (by omega) (fun z27 hz27 => ?_)
                show pmE pg X pg_tyl pg_cl (d + 8) 300 167 [.ref 147, .int x1, .int x2, .int x3, .int x4, .int x5, .int x6, .int x7, .int x8, .int x9, .int z26, .int x11, .int z27] [] (md wc f A) _
                refine pe_goto (off := (-75)) (t := 92) (by decide +kernel) (by decide) rfl ?_
                exact ih z26 z27 (by omega) (by omega)
              · skip
                refine pe_iconstv (n := 1) (v := 1) (by decide +kernel) (by decide +kernel) ?_
                refine pe_iload (j := 12) (by decide +kernel) rfl ?_
                refine pz_shl1 (by decide +kernel) rfl (by omega) (by omega) (fun z28 hz28 => ?_)
                refine pe_goto (off := 4) (t := 161) (by decide +kernel) (by decide) rfl ?_
                refine pw_or (by decide +kernel) (fun z29 => ?_)
                refine pe_istore (j := 10) (ls' := [.ref 147, .int x1, .int x2, .int x3, .int x4, .int x5, .int x6, .int x7, .int x8, .int x9, .int z29, .int x11, .int x12]) (by decide +kernel) (Nat.le_of_ble_eq_true rfl) rfl ?_
                refine pz_iinc (j := 12) (n := 1) (by decide +kernel) rfl rfl (by decide +kernel) (by omega) (by omega) (fun z30 hz30 => ?_)
                show pmE pg X pg_tyl pg_cl (d + 8) 300 167 [.ref 147, .int x1, .int x2, .int x3, .int x4, .int x5, .int x6, .int x7, .int x8, .int x9, .int z29, .int x11, .int z30] [] (md wc f A) _
                refine pe_goto (off := (-75)) (t := 92) (by decide +kernel) (by decide) rfl ?_
                exact ih z29 z30 (by omega) (by omega)
set_option maxRecDepth 100000 in
set_option maxHeartbeats 8000000 in
theorem ML_300_77 {X : pm_X} {d : Nat} {wc : pm_W} {Q : pm_R → Prop} {f : Nat → Int32} {A : Nat → List Int32} {x1 x2 x3 x4 x5 x6 x7 x8 x9 : Int32} (hc : wc.length = 147) (hI : MI f A) (gx1 : (0 ≤ x1.toInt ∧ x1.toInt ≤ 1)) (gx2 : ((-1) ≤ x2.toInt ∧ x2.toInt ≤ 2)) (gx3 : (0 ≤ x3.toInt ∧ x3.toInt ≤ 30)) (gx4 : (0 ≤ x4.toInt ∧ x4.toInt ≤ 8)) (gx5 : (0 ≤ x5.toInt ∧ x5.toInt ≤ 8)) (gx6 : (1 ≤ x6.toInt ∧ x6.toInt ≤ 99)) (gx7 : (610 ≤ x7.toInt ∧ x7.toInt ≤ 742 ∧ (x7.toInt - 610) % 132 = 0)) (gx9 : (1 ≤ x9.toInt ∧ x9.toInt ≤ 9)) (k_176_0 : ∀ (y10 : Int32) (y11 : Int32) (v12 : Value), (0 ≤ y11.toInt ∧ y11.toInt ≤ 9) → pmE pg X pg_tyl pg_cl (d + 8) 300 176 [.ref 147, .int x1, .int x2, .int x3, .int x4, .int x5, .int x6, .int x7, .int x8, .int x9, .int y10, .int y11, v12] [] (md wc f A) Q) : ∀ (m : Nat) (x10 : Int32) (x11 : Int32) (u12 : Value), (0 ≤ x11.toInt ∧ x11.toInt ≤ 9) → 9 - x11.toInt < (m : Int) → pmE pg X pg_tyl pg_cl (d + 8) 300 77 [.ref 147, .int x1, .int x2, .int x3, .int x4, .int x5, .int x6, .int x7, .int x8, .int x9, .int x10, .int x11, u12] [] (md wc f A) Q := by
  intro m
  induction m with
  | zero =>
    intro x10 x11 u12 gx11 hm
    exfalso
    have l0 := zi_lo x11
    have u0 := zi_hi x11
    omega
  | succ m ih =>
    intro x10 x11 u12 gx11 hm
    refine pe_iload (j := 11) (by decide +kernel) rfl ?_
    refine pe_aload_n (j := 0) (by decide +kernel) rfl ?_
    refine pe_get (j := 7) (ci := 12) (n := 0) (by decide +kernel) (by decide +kernel) (md_o hc) rfl ?_
    refine pe_iload (j := 7) (by decide +kernel) rfl ?_
    refine mz_ld148 (by decide +kernel) hc hI rfl (by omega) (by omega) (fun v1 ev1 pv1 => ?_)
    have rv1 : 0 ≤ v1.toInt ∧ v1.toInt ≤ 9 := MT_people pv1 (by omega)
    clear pv1
    refine pz_icmp_ge (off := 90) (t := 176) (by decide +kernel) (by decide) rfl rfl rfl (fun h2 => ?_) (fun h2 => ?_)
    · skip
      exact k_176_0 x10 x11 (u12) (by omega)
    · skip
      refine pe_iconstv (n := 0) (v := 0) (by decide +kernel) (by decide +kernel) ?_
      refine pe_istore (j := 12) (ls' := [.ref 147, .int x1, .int x2, .int x3, .int x4, .int x5, .int x6, .int x7, .int x8, .int x9, .int x10, .int x11, .int 0]) (by decide +kernel) (Nat.le_of_ble_eq_true rfl) rfl ?_
      refine ML_300_92 hc hI (by omega) (by omega) (by omega) (by omega) (by omega) (by omega) (by omega) (by omega) (by omega) (fun y3 y4 gy4 => ?_) 10 x10 0 (by decide +kernel) (by decide +kernel)
      refine pz_iinc (j := 11) (n := 1) (by decide +kernel) rfl rfl (by decide +kernel) (by omega) (by omega) (fun z5 hz5 => ?_)
      show pmE pg X pg_tyl pg_cl (d + 8) 300 173 [.ref 147, .int x1, .int x2, .int x3, .int x4, .int x5, .int x6, .int x7, .int x8, .int x9, .int y3, .int z5, .int y4] [] (md wc f A) _
      refine pe_goto (off := (-96)) (t := 77) (by decide +kernel) (by decide) rfl ?_
      exact ih y3 z5 (.int y4) (by omega) (by omega)
set_option maxRecDepth 100000 in
set_option maxHeartbeats 8000000 in
theorem ML_300_63 {X : pm_X} {d : Nat} {wc : pm_W} {Q : pm_R → Prop} {f : Nat → Int32} {A : Nat → List Int32} {x1 x2 x3 x4 x5 x6 x7 : Int32} (hc : wc.length = 147) (hI : MI f A) (gx1 : (0 ≤ x1.toInt ∧ x1.toInt ≤ 1)) (gx2 : ((-1) ≤ x2.toInt ∧ x2.toInt ≤ 2)) (gx3 : (0 ≤ x3.toInt ∧ x3.toInt ≤ 30)) (gx4 : (0 ≤ x4.toInt ∧ x4.toInt ≤ 8)) (gx5 : (0 ≤ x5.toInt ∧ x5.toInt ≤ 8)) (gx6 : (1 ≤ x6.toInt ∧ x6.toInt ≤ 99)) (gx7 : (610 ≤ x7.toInt ∧ x7.toInt ≤ 742 ∧ (x7.toInt - 610) % 132 = 0)) (k_200_0 : ∀ (y8 : Int32) (y9 : Int32) (v10 : Value) (v11 : Value) (v12 : Value), (10 ≤ y9.toInt ∧ y9.toInt ≤ 10) → pmE pg X pg_tyl pg_cl (d + 8) 300 200 [.ref 147, .int x1, .int x2, .int x3, .int x4, .int x5, .int x6, .int x7, .int y8, .int y9, v10, v11, v12] [] (md wc f A) Q) (kr_v : ∀ (r : Int32), (1 ≤ r.toInt ∧ r.toInt ≤ 9) → Q (some (.int r), md wc f A, 0, 0)) : ∀ (m : Nat) (x8 : Int32) (x9 : Int32) (u10 : Value) (u11 : Value) (u12 : Value), (1 ≤ x9.toInt ∧ x9.toInt ≤ 10) → 10 - x9.toInt < (m : Int) → pmE pg X pg_tyl pg_cl (d + 8) 300 63 [.ref 147, .int x1, .int x2, .int x3, .int x4, .int x5, .int x6, .int x7, .int x8, .int x9, u10, u11, u12] [] (md wc f A) Q := by
  intro m
  induction m with
  | zero =>
    intro x8 x9 u10 u11 u12 gx9 hm
    exfalso
    have l0 := zi_lo x9
    have u0 := zi_hi x9
    omega
  | succ m ih =>
    intro x8 x9 u10 u11 u12 gx9 hm
    refine pe_iload (j := 9) (by decide +kernel) rfl ?_
    refine pe_bipushv (n := 10) (v := 10) (by decide +kernel) (by decide +kernel) ?_
    refine pz_icmp_ge (off := 133) (t := 200) (by decide +kernel) (by decide) rfl rfl kz_10 (fun h1 => ?_) (fun h1 => ?_)
    · skip
      exact k_200_0 x8 x9 (u10) (u11) (u12) (by omega)
    · skip
      refine pe_iload (j := 8) (by decide +kernel) rfl ?_
      refine pe_istore (j := 10) (ls' := [.ref 147, .int x1, .int x2, .int x3, .int x4, .int x5, .int x6, .int x7, .int x8, .int x9, .int x8, u11, u12]) (by decide +kernel) (Nat.le_of_ble_eq_true rfl) rfl ?_
      refine pe_iconstv (n := 0) (v := 0) (by decide +kernel) (by decide +kernel) ?_
      refine pe_istore (j := 11) (ls' := [.ref 147, .int x1, .int x2, .int x3, .int x4, .int x5, .int x6, .int x7, .int x8, .int x9, .int x8, .int 0, u12]) (by decide +kernel) (Nat.le_of_ble_eq_true rfl) rfl ?_
      refine ML_300_77 hc hI (by omega) (by omega) (by omega) (by omega) (by omega) (by omega) (by omega) (by omega) (fun y2 y3 u4 gy3 => ?_) 10 x8 0 (u12) (by decide +kernel) (by decide +kernel)
      refine pe_iload (j := 10) (by decide +kernel) rfl ?_
      refine pe_istore (j := 8) (ls' := [.ref 147, .int x1, .int x2, .int x3, .int x4, .int x5, .int x6, .int x7, .int y2, .int x9, .int y2, .int y3, u4]) (by decide +kernel) (Nat.le_of_ble_eq_true rfl) rfl ?_
      refine pe_iload (j := 8) (by decide +kernel) rfl ?_
      refine pe_iload (j := 5) (by decide +kernel) rfl ?_
      refine pw_shr (by decide +kernel) (fun z5 => ?_)
      refine pe_iconstv (n := 1) (v := 1) (by decide +kernel) (by decide +kernel) ?_
      refine pz_and1 (by decide +kernel) (fun z6 hz6 => ?_)
      refine pe_iconstv (n := 1) (v := 1) (by decide +kernel) (by decide +kernel) ?_
      refine pz_icmp_ne (off := 6) (t := 194) (by decide +kernel) (by decide) rfl rfl kz_1 (fun h7 => ?_) (fun h7 => ?_)
      · skip
        refine pz_iinc (j := 9) (n := 1) (by decide +kernel) rfl rfl (by decide +kernel) (by omega) (by omega) (fun z8 hz8 => ?_)
        show pmE pg X pg_tyl pg_cl (d + 8) 300 197 [.ref 147, .int x1, .int x2, .int x3, .int x4, .int x5, .int x6, .int x7, .int y2, .int z8, .int y2, .int y3, u4] [] (md wc f A) _
        refine pe_goto (off := (-134)) (t := 63) (by decide +kernel) (by decide) rfl ?_
        exact ih y2 z8 (.int y2) (.int y3) (u4) (by omega) (by omega)
      · skip
        refine pe_iload (j := 9) (by decide +kernel) rfl ?_
        exact pe_iret (by decide +kernel) rfl rfl (kr_v x9 (by omega))
set_option maxRecDepth 100000 in
set_option maxHeartbeats 8000000 in
theorem MM_300 {X : pm_X} {d : Nat} {wc : pm_W} {f : Nat → Int32} {A : Nat → List Int32} {x1 x2 x3 x4 x5 x6 : Int32} (hc : wc.length = 147) (hI : MI f A) : pmE pg X pg_tyl pg_cl (d + 8) 300 0 (pm_ent (pm_max pg 300) [.ref 147, .int x1, .int x2, .int x3, .int x4, .int x5, .int x6]) [] (md wc f A) (fun q => ∃ (f' : Nat → Int32) (A' : Nat → List Int32) (r : Int32), q = (some (.int r), md wc f' A', 0, 0) ∧ MI f' A' ∧ (∀ k : Nat, k ≠ 14 → k ≠ 15 → k ≠ 16 → f' k = f k) ∧ (∀ k : Nat, k ≠ 152 → k ≠ 153 → A' k = A k) ∧ ((((-1) ≤ r.toInt ∧ r.toInt ≤ 9) ∧ True))) := by
  show pmE pg X pg_tyl pg_cl (d + 8) 300 0 [.ref 147, .int x1, .int x2, .int x3, .int x4, .int x5, .int x6, pm_dead, pm_dead, pm_dead, pm_dead, pm_dead, pm_dead] [] (md wc f A) _
  refine pe_aload_n (j := 0) (by decide +kernel) rfl ?_
  refine pe_iload_n (j := 1) (by decide +kernel) rfl ?_
  refine pe_iload_n (j := 2) (by decide +kernel) rfl ?_
  refine pe_iload_n (j := 3) (by decide +kernel) rfl ?_
  refine pe_iload (j := 4) (by decide +kernel) rfl ?_
  refine pe_iload (j := 5) (by decide +kernel) rfl ?_
  refine pz_callV (j := 235) (mj := 245) (by decide +kernel) (cll_V (args := [.int x5, .int x4, .int x3, .int x2, .int x1]) (n := 5) (by decide +kernel) rfl rfl (md_o hc) (by decide +kernel) (Nat.le_of_ble_eq_true rfl) (Nat.le_of_ble_eq_true rfl)) (MM_245 hc hI) (fun q1a q1b q1c q1d hqq1 => ?_)
  obtain ⟨f2, A3, rq1, eq1, hIq1, hGq1, hFq1, kq1⟩ := hqq1
  cases eq1
  refine ⟨rfl, rfl, ?_⟩
  rcases kq1 with kq1 | kq1
  · skip
    obtain ⟨erq1, kq1⟩ := kq1
    subst erq1
    show pmE pg X pg_tyl pg_cl (d + 8) 300 11 [.ref 147, .int x1, .int x2, .int x3, .int x4, .int x5, .int x6, pm_dead, pm_dead, pm_dead, pm_dead, pm_dead, pm_dead] [.int 0] (md wc f2 A3) _
    refine pz_if_eq (off := 34) (t := 45) (by decide +kernel) (by decide) rfl kz_0 (fun h4 => ?_) (fun h4 => by omega)
    refine pe_iconstv (n := (-1)) (v := (-1)) (by decide +kernel) (by decide +kernel) ?_
    exact pe_iret (by decide +kernel) rfl rfl ⟨f2, A3, (-1), rfl, hIq1, (fun k n14 n15 n16 => (hGq1 k n14 n15 n16)), (fun k n152 n153 => (hFq1 k n152 n153)), ⟨(by decide +kernel), trivial⟩⟩
  · skip
    obtain ⟨erq1, kq1⟩ := kq1
    subst erq1
    show pmE pg X pg_tyl pg_cl (d + 8) 300 11 [.ref 147, .int x1, .int x2, .int x3, .int x4, .int x5, .int x6, pm_dead, pm_dead, pm_dead, pm_dead, pm_dead, pm_dead] [.int 1] (md wc f2 A3) _
    refine pz_if_eq (off := 34) (t := 45) (by decide +kernel) (by decide) rfl kz_1 (fun h5 => by omega) (fun h5 => ?_)
    refine pe_iload (j := 4) (by decide +kernel) rfl ?_
    refine pe_iload (j := 5) (by decide +kernel) rfl ?_
    refine pz_icmp_eq (off := 27) (t := 45) (by decide +kernel) (by decide) rfl rfl rfl (fun h6 => ?_) (fun h6 => ?_)
    · skip
      refine pe_iconstv (n := (-1)) (v := (-1)) (by decide +kernel) (by decide +kernel) ?_
      exact pe_iret (by decide +kernel) rfl rfl ⟨f2, A3, (-1), rfl, hIq1, (fun k n14 n15 n16 => (hGq1 k n14 n15 n16)), (fun k n152 n153 => (hFq1 k n152 n153)), ⟨(by decide +kernel), trivial⟩⟩
    · skip
      refine pe_iload (j := 6) (by decide +kernel) rfl ?_
      refine pe_iconstv (n := 1) (v := 1) (by decide +kernel) (by decide +kernel) ?_
      refine pe_bipushv (n := 99) (v := 99) (by decide +kernel) (by decide +kernel) ?_
      refine pi_S (j := 119) (mj := 199) (by decide +kernel) (by decide +kernel) rfl ?_
      show pmE pg X pg_tyl pg_cl (d + 7) 199 0 [.int x6, .int 1, .int 99] [] (md wc f2 A3) _
      refine pe_iload_n (j := 0) (by decide +kernel) rfl ?_
      refine pe_iload_n (j := 1) (by decide +kernel) rfl ?_
      have lw8 := zi_lo x6
      have uw8 := zi_hi x6
      refine pz_icmp_lt (off := 12) (t := 14) (by decide +kernel) (by decide) rfl rfl kz_1 (fun h7 => ?_) (fun h7 => ?_)
      · skip
        refine pe_iconstv (n := 0) (v := 0) (by decide +kernel) (by decide +kernel) ?_
        refine pe_iret (by decide +kernel) rfl rfl ⟨rfl, rfl, ?_⟩
        show pmE pg X pg_tyl pg_cl (d + 8) 300 29 [.ref 147, .int x1, .int x2, .int x3, .int x4, .int x5, .int x6, pm_dead, pm_dead, pm_dead, pm_dead, pm_dead, pm_dead] [.int 0] (md wc f2 A3) _
        refine pz_if_eq (off := 16) (t := 45) (by decide +kernel) (by decide) rfl kz_0 (fun h9 => ?_) (fun h9 => by omega)
        refine pe_iconstv (n := (-1)) (v := (-1)) (by decide +kernel) (by decide +kernel) ?_
        exact pe_iret (by decide +kernel) rfl rfl ⟨f2, A3, (-1), rfl, hIq1, (fun k n14 n15 n16 => (hGq1 k n14 n15 n16)), (fun k n152 n153 => (hFq1 k n152 n153)), ⟨(by decide +kernel), trivial⟩⟩
      · skip
        refine pe_iload_n (j := 0) (by decide +kernel) rfl ?_
        refine pe_iload_n (j := 2) (by decide +kernel) rfl ?_
        refine pz_icmp_gt (off := 7) (t := 14) (by decide +kernel) (by decide) rfl rfl kz_99 (fun h10 => ?_) (fun h10 => ?_)
        · skip
          refine pe_iconstv (n := 0) (v := 0) (by decide +kernel) (by decide +kernel) ?_
          refine pe_iret (by decide +kernel) rfl rfl ⟨rfl, rfl, ?_⟩
          show pmE pg X pg_tyl pg_cl (d + 8) 300 29 [.ref 147, .int x1, .int x2, .int x3, .int x4, .int x5, .int x6, pm_dead, pm_dead, pm_dead, pm_dead, pm_dead, pm_dead] [.int 0] (md wc f2 A3) _
          refine pz_if_eq (off := 16) (t := 45) (by decide +kernel) (by decide) rfl kz_0 (fun h11 => ?_) (fun h11 => by omega)
          refine pe_iconstv (n := (-1)) (v := (-1)) (by decide +kernel) (by decide +kernel) ?_
          exact pe_iret (by decide +kernel) rfl rfl ⟨f2, A3, (-1), rfl, hIq1, (fun k n14 n15 n16 => (hGq1 k n14 n15 n16)), (fun k n152 n153 => (hFq1 k n152 n153)), ⟨(by decide +kernel), trivial⟩⟩
        · skip
          refine pe_iconstv (n := 1) (v := 1) (by decide +kernel) (by decide +kernel) ?_
          refine pe_goto (off := 4) (t := 15) (by decide +kernel) (by decide) rfl ?_
          refine pe_iret (by decide +kernel) rfl rfl ⟨rfl, rfl, ?_⟩
          show pmE pg X pg_tyl pg_cl (d + 8) 300 29 [.ref 147, .int x1, .int x2, .int x3, .int x4, .int x5, .int x6, pm_dead, pm_dead, pm_dead, pm_dead, pm_dead, pm_dead] [.int 1] (md wc f2 A3) _
          refine pz_if_eq (off := 16) (t := 45) (by decide +kernel) (by decide) rfl kz_1 (fun h12 => by omega) (fun h12 => ?_)
          refine pe_aload_n (j := 0) (by decide +kernel) rfl ?_
          refine pe_iload (j := 4) (by decide +kernel) rfl ?_
          refine pe_iload (j := 5) (by decide +kernel) rfl ?_
          refine pi_V (j := 181) (mj := 232) (by decide +kernel) (cll_V (args := [.int x5, .int x4]) (n := 2) (by decide +kernel) rfl rfl (md_o hc) (by decide +kernel) (Nat.le_of_ble_eq_true rfl) (Nat.le_of_ble_eq_true rfl)) ?_
          show pmE pg X pg_tyl pg_cl (d + 7) 232 0 [.ref 147, .int x4, .int x5] [] (md wc f2 A3) _
          refine pe_aload_n (j := 0) (by decide +kernel) rfl ?_
          refine pe_get (j := 23) (ci := 12) (n := 12) (by decide +kernel) (by decide +kernel) (md_o hc) rfl ?_
          refine pe_bipushv (n := 9) (v := 9) (by decide +kernel) (by decide +kernel) ?_
          refine pe_iload_n (j := 1) (by decide +kernel) rfl ?_
          refine pz_mul (by decide +kernel) kz_9 rfl (by omega) (by omega) (fun z13 hz13 => ?_)
          refine pe_iload_n (j := 2) (by decide +kernel) rfl ?_
          refine pz_add (by decide +kernel) hz13 rfl (by omega) (by omega) (fun z14 hz14 => ?_)
          clear hz13
          refine mz_ld152 (by decide +kernel) hc hIq1 hz14 (by omega) (by omega) (fun v15 ev15 => ?_)
          clear hz14
          refine pe_iret (by decide +kernel) rfl rfl ⟨rfl, rfl, ?_⟩
          show pmE pg X pg_tyl pg_cl (d + 8) 300 40 [.ref 147, .int x1, .int x2, .int x3, .int x4, .int x5, .int x6, pm_dead, pm_dead, pm_dead, pm_dead, pm_dead, pm_dead] [.int v15] (md wc f2 A3) _
          refine pe_iload (j := 6) (by decide +kernel) rfl ?_
          have lw17 := zi_lo v15
          have uw17 := zi_hi v15
          refine pz_icmp_ge (off := 5) (t := 47) (by decide +kernel) (by decide) rfl rfl rfl (fun h16 => ?_) (fun h16 => ?_)
          · skip
            refine pe_iconstv (n := 0) (v := 0) (by decide +kernel) (by decide +kernel) ?_
            refine pe_iload_n (j := 1) (by decide +kernel) rfl ?_
            refine pi_S (j := 163) (mj := 217) (by decide +kernel) (by decide +kernel) rfl ?_
            show pmE pg X pg_tyl pg_cl (d + 7) 217 0 [.int 0, .int x1] [] (md wc f2 A3) _
            refine pe_iload_n (j := 0) (by decide +kernel) rfl ?_
            refine pz_if_ne (off := 15) (t := 16) (by decide +kernel) (by decide) rfl kz_0 (fun h18 => by omega) (fun h18 => ?_)
            refine pe_sipushv (n := 610) (v := 610) (by decide +kernel) (by decide +kernel) ?_
            refine pe_sipushv (n := 132) (v := 132) (by decide +kernel) (by decide +kernel) ?_
            refine pe_iload_n (j := 1) (by decide +kernel) rfl ?_
            refine pz_mul (by decide +kernel) kz_132 rfl (by omega) (by omega) (fun z19 hz19 => ?_)
            refine pz_add (by decide +kernel) kz_610 hz19 (by omega) (by omega) (fun z20 hz20 => ?_)
            clear hz19
            refine pe_goto (off := 12) (t := 25) (by decide +kernel) (by decide) rfl ?_
            refine pe_iret (by decide +kernel) rfl rfl ⟨rfl, rfl, ?_⟩
            show pmE pg X pg_tyl pg_cl (d + 8) 300 52 [.ref 147, .int x1, .int x2, .int x3, .int x4, .int x5, .int x6, pm_dead, pm_dead, pm_dead, pm_dead, pm_dead, pm_dead] [.int z20] (md wc f2 A3) _
            refine pe_istore (j := 7) (ls' := [.ref 147, .int x1, .int x2, .int x3, .int x4, .int x5, .int x6, .int z20, pm_dead, pm_dead, pm_dead, pm_dead, pm_dead]) (by decide +kernel) (Nat.le_of_ble_eq_true rfl) rfl ?_
            refine pe_iconstv (n := 1) (v := 1) (by decide +kernel) (by decide +kernel) ?_
            refine pe_iload (j := 4) (by decide +kernel) rfl ?_
            refine pz_shl1 (by decide +kernel) rfl (by omega) (by omega) (fun z21 hz21 => ?_)
            refine pe_istore (j := 8) (ls' := [.ref 147, .int x1, .int x2, .int x3, .int x4, .int x5, .int x6, .int z20, .int z21, pm_dead, pm_dead, pm_dead, pm_dead]) (by decide +kernel) (Nat.le_of_ble_eq_true rfl) rfl ?_
            refine pe_iconstv (n := 1) (v := 1) (by decide +kernel) (by decide +kernel) ?_
            refine pe_istore (j := 9) (ls' := [.ref 147, .int x1, .int x2, .int x3, .int x4, .int x5, .int x6, .int z20, .int z21, .int 1, pm_dead, pm_dead, pm_dead]) (by decide +kernel) (Nat.le_of_ble_eq_true rfl) rfl ?_
            refine ML_300_63 hc hIq1 (by omega) (by omega) (by omega) (by omega) (by omega) (by omega) (by omega) (fun y22 y23 u24 u25 u26 gy23 => ?_) (fun r27 gr27 => ⟨f2, A3, r27, rfl, hIq1, (fun k n14 n15 n16 => (hGq1 k n14 n15 n16)), (fun k n152 n153 => (hFq1 k n152 n153)), ⟨(by omega), trivial⟩⟩) 10 z21 1 (pm_dead) (pm_dead) (pm_dead) (by decide +kernel) (by decide +kernel)
            refine pe_iconstv (n := (-1)) (v := (-1)) (by decide +kernel) (by decide +kernel) ?_
            exact pe_iret (by decide +kernel) rfl rfl ⟨f2, A3, (-1), rfl, hIq1, (fun k n14 n15 n16 => (hGq1 k n14 n15 n16)), (fun k n152 n153 => (hFq1 k n152 n153)), ⟨(by decide +kernel), trivial⟩⟩
          · skip
            refine pe_iconstv (n := (-1)) (v := (-1)) (by decide +kernel) (by decide +kernel) ?_
            exact pe_iret (by decide +kernel) rfl rfl ⟨f2, A3, (-1), rfl, hIq1, (fun k n14 n15 n16 => (hGq1 k n14 n15 n16)), (fun k n152 n153 => (hFq1 k n152 n153)), ⟨(by decide +kernel), trivial⟩⟩
