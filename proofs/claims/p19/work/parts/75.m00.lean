set_option maxRecDepth 100000 in
set_option maxHeartbeats 8000000 in
theorem ML_275_36 {X : pm_X} {d : Nat} {wc : pm_W} {Q : pm_R → Prop} {f : Nat → Int32} {A : Nat → List Int32} {x1 x2 x3 x5 x6 : Int32} (hc : wc.length = 147) (hI : MI f A) (gx1 : (610 ≤ x1.toInt ∧ x1.toInt ≤ 742 ∧ (x1.toInt - 610) % 132 = 0)) (gx2 : (0 ≤ x2.toInt ∧ x2.toInt ≤ 8)) (gx5 : (0 ≤ x5.toInt ∧ x5.toInt ≤ 511)) (gx6 : (0 ≤ x6.toInt ∧ x6.toInt ≤ 8)) (k_97_0 : ∀ (y4 : Int32) (y7 : Int32), (0 ≤ y4.toInt ∧ y4.toInt ≤ 511) → (0 ≤ y7.toInt ∧ y7.toInt ≤ 9) → ((-1) * y4.toInt + x5.toInt) ≤ 0 → pmE pg X pg_tyl pg_cl (d + 2) 275 97 [.ref 147, .int x1, .int x2, .int x3, .int y4, .int x5, .int x6, .int y7] [] (md wc f A) Q) : ∀ (m : Nat) (x4 : Int32) (x7 : Int32), (0 ≤ x4.toInt ∧ x4.toInt ≤ 511) → (0 ≤ x7.toInt ∧ x7.toInt ≤ 9) → ((-1) * x4.toInt + x5.toInt) ≤ 0 → 9 - x7.toInt < (m : Int) → pmE pg X pg_tyl pg_cl (d + 2) 275 36 [.ref 147, .int x1, .int x2, .int x3, .int x4, .int x5, .int x6, .int x7] [] (md wc f A) Q := by
  intro m
  induction m with
  | zero =>
    intro x4 x7 gx4 gx7 hxi0 hm
    exfalso
    have l0 := zi_lo x7
    have u0 := zi_hi x7
    omega
  | succ m ih =>
    intro x4 x7 gx4 gx7 hxi0 hm
    refine pe_iload (j := 7) (by decide +kernel) rfl ?_
    refine pe_aload_n (j := 0) (by decide +kernel) rfl ?_
    refine pe_get (j := 7) (ci := 12) (n := 0) (by decide +kernel) (by decide +kernel) (md_o hc) rfl ?_
    refine pe_iload_n (j := 1) (by decide +kernel) rfl ?_
    refine mz_ld148 (by decide +kernel) hc hI rfl (by omega) (by omega) (fun v1 ev1 pv1 => ?_)
    have rv1 : 0 ≤ v1.toInt ∧ v1.toInt ≤ 9 := MT_people pv1 (by omega)
    clear pv1
    refine pz_icmp_ge (off := 53) (t := 97) (by decide +kernel) (by decide) rfl rfl rfl (fun h2 => ?_) (fun h2 => ?_)
    · skip
      exact k_97_0 x4 x7 (by omega) (by omega) (by omega)
    · skip
      refine pe_iload (j := 4) (by decide +kernel) rfl ?_
      refine pe_iload (j := 4) (by decide +kernel) rfl ?_
      refine pe_iload (j := 6) (by decide +kernel) rfl ?_
      refine pw_shr (by decide +kernel) (fun z3 => ?_)
      refine pe_iconstv (n := 1) (v := 1) (by decide +kernel) (by decide +kernel) ?_
      refine pz_and1 (by decide +kernel) (fun z4 hz4 => ?_)
      refine pe_iconstv (n := 1) (v := 1) (by decide +kernel) (by decide +kernel) ?_
      refine pz_icmp_ne (off := 30) (t := 87) (by decide +kernel) (by decide) rfl rfl kz_1 (fun h5 => ?_) (fun h5 => ?_)
      · skip
        refine pe_iconstv (n := 0) (v := 0) (by decide +kernel) (by decide +kernel) ?_
        have hlz6 := kz_0
        refine pz_or9 (by decide +kernel) rfl kz_0 (by omega) (by omega) (by omega) (by omega) (fun z6 hz6 => ?_)
        refine pe_istore (j := 4) (ls' := [.ref 147, .int x1, .int x2, .int x3, .int z6, .int x5, .int x6, .int x7]) (by decide +kernel) (Nat.le_of_ble_eq_true rfl) rfl ?_
        refine pz_iinc (j := 7) (n := 1) (by decide +kernel) rfl rfl (by decide +kernel) (by omega) (by omega) (fun z7 hz7 => ?_)
        show pmE pg X pg_tyl pg_cl (d + 2) 275 94 [.ref 147, .int x1, .int x2, .int x3, .int z6, .int x5, .int x6, .int z7] [] (md wc f A) _
        refine pe_goto (off := (-58)) (t := 36) (by decide +kernel) (by decide) rfl ?_
        exact ih z6 z7 (by omega) (by omega) (by omega) (by omega)
      · skip
        refine pe_iload (j := 6) (by decide +kernel) rfl ?_
        refine pe_iload (j := 7) (by decide +kernel) rfl ?_
        refine pz_icmp_eq (off := 23) (t := 87) (by decide +kernel) (by decide) rfl rfl rfl (fun h8 => ?_) (fun h8 => ?_)
        · skip
          refine pe_iconstv (n := 0) (v := 0) (by decide +kernel) (by decide +kernel) ?_
          have hlz9 := kz_0
          refine pz_or9 (by decide +kernel) rfl kz_0 (by omega) (by omega) (by omega) (by omega) (fun z9 hz9 => ?_)
          refine pe_istore (j := 4) (ls' := [.ref 147, .int x1, .int x2, .int x3, .int z9, .int x5, .int x6, .int x7]) (by decide +kernel) (Nat.le_of_ble_eq_true rfl) rfl ?_
          refine pz_iinc (j := 7) (n := 1) (by decide +kernel) rfl rfl (by decide +kernel) (by omega) (by omega) (fun z10 hz10 => ?_)
          show pmE pg X pg_tyl pg_cl (d + 2) 275 94 [.ref 147, .int x1, .int x2, .int x3, .int z9, .int x5, .int x6, .int z10] [] (md wc f A) _
          refine pe_goto (off := (-58)) (t := 36) (by decide +kernel) (by decide) rfl ?_
          exact ih z9 z10 (by omega) (by omega) (by omega) (by omega)
        · skip
          refine pe_aload_n (j := 0) (by decide +kernel) rfl ?_
          refine pe_iload_n (j := 1) (by decide +kernel) rfl ?_
          refine pe_iload (j := 6) (by decide +kernel) rfl ?_
          refine pe_iload (j := 7) (by decide +kernel) rfl ?_
          refine pz_callV (j := 199) (mj := 231) (by decide +kernel) (cll_V (args := [.int x7, .int x6, .int x1]) (n := 3) (by decide +kernel) rfl rfl (md_o hc) (by decide +kernel) (Nat.le_of_ble_eq_true rfl) (Nat.le_of_ble_eq_true rfl)) (MM_231 hc hI (by omega) (by omega) (by omega)) (fun q11a q11b q11c q11d hqq11 => ?_)
          obtain ⟨rq11, eq11, kq11⟩ := hqq11
          cases eq11
          refine ⟨rfl, rfl, ?_⟩
          show pmE pg X pg_tyl pg_cl (d + 2) 275 76 [.ref 147, .int x1, .int x2, .int x3, .int x4, .int x5, .int x6, .int x7] [.int rq11, .int x4] (md wc f A) _
          refine pe_iload_n (j := 3) (by decide +kernel) rfl ?_
          have lw13 := zi_lo rq11
          have uw13 := zi_hi rq11
          have lw14 := zi_lo x3
          have uw14 := zi_hi x3
          refine pz_icmp_lt (off := 10) (t := 87) (by decide +kernel) (by decide) rfl rfl rfl (fun h12 => ?_) (fun h12 => ?_)
          · skip
            refine pe_iconstv (n := 0) (v := 0) (by decide +kernel) (by decide +kernel) ?_
            have hlz15 := kz_0
            refine pz_or9 (by decide +kernel) rfl kz_0 (by omega) (by omega) (by omega) (by omega) (fun z15 hz15 => ?_)
            refine pe_istore (j := 4) (ls' := [.ref 147, .int x1, .int x2, .int x3, .int z15, .int x5, .int x6, .int x7]) (by decide +kernel) (Nat.le_of_ble_eq_true rfl) rfl ?_
            refine pz_iinc (j := 7) (n := 1) (by decide +kernel) rfl rfl (by decide +kernel) (by omega) (by omega) (fun z16 hz16 => ?_)
            show pmE pg X pg_tyl pg_cl (d + 2) 275 94 [.ref 147, .int x1, .int x2, .int x3, .int z15, .int x5, .int x6, .int z16] [] (md wc f A) _
            refine pe_goto (off := (-58)) (t := 36) (by decide +kernel) (by decide) rfl ?_
            exact ih z15 z16 (by omega) (by omega) (by omega) (by omega)
          · skip
            refine pe_iconstv (n := 1) (v := 1) (by decide +kernel) (by decide +kernel) ?_
            refine pe_iload (j := 7) (by decide +kernel) rfl ?_
            refine pz_shl1 (by decide +kernel) rfl (by omega) (by omega) (fun z17 hz17 => ?_)
            refine pe_goto (off := 4) (t := 88) (by decide +kernel) (by decide) rfl ?_
            refine pz_or9 (by decide +kernel) rfl rfl (by omega) (by omega) (by omega) (by omega) (fun z18 hz18 => ?_)
            refine pe_istore (j := 4) (ls' := [.ref 147, .int x1, .int x2, .int x3, .int z18, .int x5, .int x6, .int x7]) (by decide +kernel) (Nat.le_of_ble_eq_true rfl) rfl ?_
            refine pz_iinc (j := 7) (n := 1) (by decide +kernel) rfl rfl (by decide +kernel) (by omega) (by omega) (fun z19 hz19 => ?_)
            show pmE pg X pg_tyl pg_cl (d + 2) 275 94 [.ref 147, .int x1, .int x2, .int x3, .int z18, .int x5, .int x6, .int z19] [] (md wc f A) _
            refine pe_goto (off := (-58)) (t := 36) (by decide +kernel) (by decide) rfl ?_
            exact ih z18 z19 (by omega) (by omega) (by omega) (by omega)
set_option maxRecDepth 100000 in
set_option maxHeartbeats 8000000 in
theorem ML_275_22 {X : pm_X} {d : Nat} {wc : pm_W} {Q : pm_R → Prop} {f : Nat → Int32} {A : Nat → List Int32} {x1 x2 x3 x5 : Int32} (hc : wc.length = 147) (hI : MI f A) (gx1 : (610 ≤ x1.toInt ∧ x1.toInt ≤ 742 ∧ (x1.toInt - 610) % 132 = 0)) (gx2 : (0 ≤ x2.toInt ∧ x2.toInt ≤ 8)) (gx5 : (0 ≤ x5.toInt ∧ x5.toInt ≤ 511)) (k_103_0 : ∀ (y4 : Int32) (y6 : Int32) (v7 : Value), (0 ≤ y4.toInt ∧ y4.toInt ≤ 511) → (0 ≤ y6.toInt ∧ y6.toInt ≤ 9) → ((-1) * y4.toInt + x5.toInt) ≤ 0 → pmE pg X pg_tyl pg_cl (d + 2) 275 103 [.ref 147, .int x1, .int x2, .int x3, .int y4, .int x5, .int y6, v7] [] (md wc f A) Q) : ∀ (m : Nat) (x4 : Int32) (x6 : Int32) (u7 : Value), (0 ≤ x4.toInt ∧ x4.toInt ≤ 511) → (0 ≤ x6.toInt ∧ x6.toInt ≤ 9) → ((-1) * x4.toInt + x5.toInt) ≤ 0 → 9 - x6.toInt < (m : Int) → pmE pg X pg_tyl pg_cl (d + 2) 275 22 [.ref 147, .int x1, .int x2, .int x3, .int x4, .int x5, .int x6, u7] [] (md wc f A) Q := by
  intro m
  induction m with
  | zero =>
    intro x4 x6 u7 gx4 gx6 hxi0 hm
    exfalso
    have l0 := zi_lo x6
    have u0 := zi_hi x6
    omega
  | succ m ih =>
    intro x4 x6 u7 gx4 gx6 hxi0 hm
    refine pe_iload (j := 6) (by decide +kernel) rfl ?_
    refine pe_aload_n (j := 0) (by decide +kernel) rfl ?_
    refine pe_get (j := 7) (ci := 12) (n := 0) (by decide +kernel) (by decide +kernel) (md_o hc) rfl ?_
    refine pe_iload_n (j := 1) (by decide +kernel) rfl ?_
    refine mz_ld148 (by decide +kernel) hc hI rfl (by omega) (by omega) (fun v1 ev1 pv1 => ?_)
    have rv1 : 0 ≤ v1.toInt ∧ v1.toInt ≤ 9 := MT_people pv1 (by omega)
    clear pv1
    refine pz_icmp_ge (off := 73) (t := 103) (by decide +kernel) (by decide) rfl rfl rfl (fun h2 => ?_) (fun h2 => ?_)
    · skip
      exact k_103_0 x4 x6 (u7) (by omega) (by omega) (by omega)
    · skip
      refine pe_iconstv (n := 0) (v := 0) (by decide +kernel) (by decide +kernel) ?_
      refine pe_istore (j := 7) (ls' := [.ref 147, .int x1, .int x2, .int x3, .int x4, .int x5, .int x6, .int 0]) (by decide +kernel) (Nat.le_of_ble_eq_true rfl) rfl ?_
      refine ML_275_36 hc hI (by omega) (by omega) (by omega) (by omega) (fun y3 y4 gy3 gy4 hx5 => ?_) 10 x4 0 (by omega) (by decide +kernel) (by omega) (by decide +kernel)
      refine pz_iinc (j := 6) (n := 1) (by decide +kernel) rfl rfl (by decide +kernel) (by omega) (by omega) (fun z6 hz6 => ?_)
      show pmE pg X pg_tyl pg_cl (d + 2) 275 100 [.ref 147, .int x1, .int x2, .int x3, .int y3, .int x5, .int z6, .int y4] [] (md wc f A) _
      refine pe_goto (off := (-78)) (t := 22) (by decide +kernel) (by decide) rfl ?_
      exact ih y3 z6 (.int y4) (by omega) (by omega) (by omega) (by omega)
set_option maxRecDepth 100000 in
set_option maxHeartbeats 8000000 in
theorem ML_275_8 {X : pm_X} {d : Nat} {wc : pm_W} {Q : pm_R → Prop} {f : Nat → Int32} {A : Nat → List Int32} {x1 x2 x3 : Int32} (hc : wc.length = 147) (hI : MI f A) (gx1 : (610 ≤ x1.toInt ∧ x1.toInt ≤ 742 ∧ (x1.toInt - 610) % 132 = 0)) (gx2 : (0 ≤ x2.toInt ∧ x2.toInt ≤ 8)) (k_106_0 : ∀ (y4 : Int32) (y5 : Int32) (v6 : Value) (v7 : Value), (0 ≤ y4.toInt ∧ y4.toInt ≤ 511) → (0 ≤ y5.toInt ∧ y5.toInt ≤ 511) → ((-1) * y4.toInt + y5.toInt) ≤ 0 → pmE pg X pg_tyl pg_cl (d + 2) 275 106 [.ref 147, .int x1, .int x2, .int x3, .int y4, .int y5, v6, v7] [] (md wc f A) Q) : ∀ (m : Nat) (x4 : Int32) (x5 : Int32) (u6 : Value) (u7 : Value), (0 ≤ x4.toInt ∧ x4.toInt ≤ 511) → (0 ≤ x5.toInt ∧ x5.toInt ≤ 511) → ((-1) * x4.toInt + x5.toInt) ≤ 0 → ((-1) * x4.toInt + (-1) * x5.toInt + 1024) < (m : Int) → pmE pg X pg_tyl pg_cl (d + 2) 275 8 [.ref 147, .int x1, .int x2, .int x3, .int x4, .int x5, u6, u7] [] (md wc f A) Q := by
  intro m
  induction m with
  | zero =>
    intro x4 x5 u6 u7 gx4 gx5 hxi0 hm
    exfalso
    omega
  | succ m ih =>
    intro x4 x5 u6 u7 gx4 gx5 hxi0 hm
    refine pe_iload (j := 4) (by decide +kernel) rfl ?_
    refine pe_iload (j := 5) (by decide +kernel) rfl ?_
    refine pz_icmp_eq (off := 94) (t := 106) (by decide +kernel) (by decide) rfl rfl rfl (fun h1 => ?_) (fun h1 => ?_)
    · skip
      exact k_106_0 x4 x5 (u6) (u7) (by omega) (by omega) (by omega)
    · skip
      refine pe_iload (j := 4) (by decide +kernel) rfl ?_
      refine pe_istore (j := 5) (ls' := [.ref 147, .int x1, .int x2, .int x3, .int x4, .int x4, u6, u7]) (by decide +kernel) (Nat.le_of_ble_eq_true rfl) rfl ?_
      refine pe_iconstv (n := 0) (v := 0) (by decide +kernel) (by decide +kernel) ?_
      refine pe_istore (j := 6) (ls' := [.ref 147, .int x1, .int x2, .int x3, .int x4, .int x4, .int 0, u7]) (by decide +kernel) (Nat.le_of_ble_eq_true rfl) rfl ?_
      refine ML_275_22 hc hI (by omega) (by omega) (by omega) (fun y2 y3 u4 gy2 gy3 hx5 => ?_) 10 x4 0 (u7) (by omega) (by decide +kernel) (by omega) (by decide +kernel)
      refine pe_goto (off := (-95)) (t := 8) (by decide +kernel) (by decide) rfl ?_
      exact ih y2 x4 (.int y3) (u4) (by omega) (by omega) (by omega) (by omega)
set_option maxRecDepth 100000 in
set_option maxHeartbeats 8000000 in
theorem MM_275 {X : pm_X} {d : Nat} {wc : pm_W} {f : Nat → Int32} {A : Nat → List Int32} {x1 x2 x3 : Int32} (hc : wc.length = 147) (hI : MI f A) (gx1 : (610 ≤ x1.toInt ∧ x1.toInt ≤ 742 ∧ (x1.toInt - 610) % 132 = 0)) (gx2 : (0 ≤ x2.toInt ∧ x2.toInt ≤ 8)) : pmE pg X pg_tyl pg_cl (d + 2) 275 0 (pm_ent (pm_max pg 275) [.ref 147, .int x1, .int x2, .int x3]) [] (md wc f A) (fun q => ∃ (r : Int32), q = (some (.int r), md wc f A, 0, 0) ∧ (((0 ≤ r.toInt ∧ r.toInt ≤ 511) ∧ True))) := by
  show pmE pg X pg_tyl pg_cl (d + 2) 275 0 [.ref 147, .int x1, .int x2, .int x3, pm_dead, pm_dead, pm_dead, pm_dead] [] (md wc f A) _
  refine pe_iconstv (n := 1) (v := 1) (by decide +kernel) (by decide +kernel) ?_
  refine pe_iload_n (j := 2) (by decide +kernel) rfl ?_
  refine pz_shl1 (by decide +kernel) rfl (by omega) (by omega) (fun z1 hz1 => ?_)
  refine pe_istore (j := 4) (ls' := [.ref 147, .int x1, .int x2, .int x3, .int z1, pm_dead, pm_dead, pm_dead]) (by decide +kernel) (Nat.le_of_ble_eq_true rfl) rfl ?_
  refine pe_iconstv (n := 0) (v := 0) (by decide +kernel) (by decide +kernel) ?_
  refine pe_istore (j := 5) (ls' := [.ref 147, .int x1, .int x2, .int x3, .int z1, .int 0, pm_dead, pm_dead]) (by decide +kernel) (Nat.le_of_ble_eq_true rfl) rfl ?_
  have hl7 := kz_0
  have hl8 := kz_0
  refine ML_275_8 hc hI (by omega) (by omega) (fun y2 y3 u4 u5 gy2 gy3 hx6 => ?_) 1025 z1 0 (pm_dead) (pm_dead) (by omega) (by decide +kernel) (by omega) (by omega)
  refine pe_iload (j := 4) (by decide +kernel) rfl ?_
  exact pe_iret (by decide +kernel) rfl rfl ⟨y2, rfl, ⟨(by omega), trivial⟩⟩
set_option maxRecDepth 100000 in
set_option maxHeartbeats 8000000 in
theorem MM_274 {X : pm_X} {d : Nat} {wc : pm_W} {f : Nat → Int32} {A : Nat → List Int32} {x1 x2 x3 x4 : Int32} (hc : wc.length = 147) (hI : MI f A) : pmE pg X pg_tyl pg_cl (d + 8) 274 0 (pm_ent (pm_max pg 274) [.ref 147, .int x1, .int x2, .int x3, .int x4]) [] (md wc f A) (fun q => ∃ (f' : Nat → Int32) (A' : Nat → List Int32) (r : Int32), q = (some (.int r), md wc f' A', 0, 0) ∧ MI f' A' ∧ (∀ k : Nat, k ≠ 14 → k ≠ 15 → k ≠ 16 → f' k = f k) ∧ (∀ k : Nat, k ≠ 152 → k ≠ 153 → A' k = A k) ∧ ((((-1) ≤ r.toInt ∧ r.toInt ≤ 511) ∧ True))) := by
  show pmE pg X pg_tyl pg_cl (d + 8) 274 0 [.ref 147, .int x1, .int x2, .int x3, .int x4, pm_dead, pm_dead] [] (md wc f A) _
  refine pe_aload_n (j := 0) (by decide +kernel) rfl ?_
  refine pe_iload_n (j := 1) (by decide +kernel) rfl ?_
  refine pe_iload_n (j := 2) (by decide +kernel) rfl ?_
  refine pe_iload_n (j := 3) (by decide +kernel) rfl ?_
  refine pe_iload (j := 4) (by decide +kernel) rfl ?_
  refine pz_callV (j := 303) (mj := 265) (by decide +kernel) (cll_V (args := [.int x4, .int x3, .int x2, .int x1]) (n := 4) (by decide +kernel) rfl rfl (md_o hc) (by decide +kernel) (Nat.le_of_ble_eq_true rfl) (Nat.le_of_ble_eq_true rfl)) (MM_265 hc hI) (fun q1a q1b q1c q1d hqq1 => ?_)
  obtain ⟨f2, A3, rq1, eq1, hIq1, hGq1, hFq1, kq1⟩ := hqq1
  cases eq1
  refine ⟨rfl, rfl, ?_⟩
  rcases kq1 with kq1 | kq1
  · skip
    obtain ⟨erq1, kq1⟩ := kq1
    subst erq1
    show pmE pg X pg_tyl pg_cl (d + 8) 274 9 [.ref 147, .int x1, .int x2, .int x3, .int x4, pm_dead, pm_dead] [.int 0] (md wc f2 A3) _
    refine pz_if_ne (off := 5) (t := 14) (by decide +kernel) (by decide) rfl kz_0 (fun h4 => by omega) (fun h4 => ?_)
    refine pe_iconstv (n := (-1)) (v := (-1)) (by decide +kernel) (by decide +kernel) ?_
    exact pe_iret (by decide +kernel) rfl rfl ⟨f2, A3, (-1), rfl, hIq1, (fun k n14 n15 n16 => (hGq1 k n14 n15 n16)), (fun k n152 n153 => (hFq1 k n152 n153)), ⟨(by decide +kernel), trivial⟩⟩
  · skip
    obtain ⟨erq1, kq1⟩ := kq1
    subst erq1
    show pmE pg X pg_tyl pg_cl (d + 8) 274 9 [.ref 147, .int x1, .int x2, .int x3, .int x4, pm_dead, pm_dead] [.int 1] (md wc f2 A3) _
    refine pz_if_ne (off := 5) (t := 14) (by decide +kernel) (by decide) rfl kz_1 (fun h5 => ?_) (fun h5 => by omega)
    refine pe_iconstv (n := 0) (v := 0) (by decide +kernel) (by decide +kernel) ?_
    refine pe_iload_n (j := 1) (by decide +kernel) rfl ?_
    refine pi_S (j := 163) (mj := 217) (by decide +kernel) (by decide +kernel) rfl ?_
    show pmE pg X pg_tyl pg_cl (d + 7) 217 0 [.int 0, .int x1] [] (md wc f2 A3) _
    refine pe_iload_n (j := 0) (by decide +kernel) rfl ?_
    refine pz_if_ne (off := 15) (t := 16) (by decide +kernel) (by decide) rfl kz_0 (fun h6 => by omega) (fun h6 => ?_)
    refine pe_sipushv (n := 610) (v := 610) (by decide +kernel) (by decide +kernel) ?_
    refine pe_sipushv (n := 132) (v := 132) (by decide +kernel) (by decide +kernel) ?_
    refine pe_iload_n (j := 1) (by decide +kernel) rfl ?_
    refine pz_mul (by decide +kernel) kz_132 rfl (by omega) (by omega) (fun z7 hz7 => ?_)
    refine pz_add (by decide +kernel) kz_610 hz7 (by omega) (by omega) (fun z8 hz8 => ?_)
    clear hz7
    refine pe_goto (off := 12) (t := 25) (by decide +kernel) (by decide) rfl ?_
    refine pe_iret (by decide +kernel) rfl rfl ⟨rfl, rfl, ?_⟩
    show pmE pg X pg_tyl pg_cl (d + 8) 274 19 [.ref 147, .int x1, .int x2, .int x3, .int x4, pm_dead, pm_dead] [.int z8] (md wc f2 A3) _
    refine pe_istore (j := 5) (ls' := [.ref 147, .int x1, .int x2, .int x3, .int x4, .int z8, pm_dead]) (by decide +kernel) (Nat.le_of_ble_eq_true rfl) rfl ?_
    refine pe_aload_n (j := 0) (by decide +kernel) rfl ?_
    refine pe_iload (j := 5) (by decide +kernel) rfl ?_
    refine pe_aload_n (j := 0) (by decide +kernel) rfl ?_
    refine pe_iload (j := 5) (by decide +kernel) rfl ?_
    refine pe_iload (j := 4) (by decide +kernel) rfl ?_
    refine pe_iconstv (n := 1) (v := 1) (by decide +kernel) (by decide +kernel) ?_
    refine pi_V (j := 172) (mj := 224) (by decide +kernel) (cll_V (args := [.int 1, .int x4, .int z8]) (n := 3) (by decide +kernel) rfl rfl (md_o hc) (by decide +kernel) (Nat.le_of_ble_eq_true rfl) (Nat.le_of_ble_eq_true rfl)) ?_
    show pmE pg X pg_tyl pg_cl (d + 7) 224 0 [.ref 147, .int z8, .int x4, .int 1] [] (md wc f2 A3) _
    refine pe_aload_n (j := 0) (by decide +kernel) rfl ?_
    refine pe_get (j := 7) (ci := 12) (n := 0) (by decide +kernel) (by decide +kernel) (md_o hc) rfl ?_
    refine pe_iload_n (j := 1) (by decide +kernel) rfl ?_
    refine pe_bipushv (n := 102) (v := 102) (by decide +kernel) (by decide +kernel) ?_
    refine pz_add (by decide +kernel) hz8 kz_102 (by omega) (by omega) (fun z9 hz9 => ?_)
    refine pe_iconstv (n := 4) (v := 4) (by decide +kernel) (by decide +kernel) ?_
    refine pe_iload_n (j := 2) (by decide +kernel) rfl ?_
    refine pz_mul (by decide +kernel) kz_4 rfl (by omega) (by omega) (fun z10 hz10 => ?_)
    refine pz_add (by decide +kernel) hz9 hz10 (by omega) (by omega) (fun z11 hz11 => ?_)
    clear hz9 hz10
    refine pe_iload_n (j := 3) (by decide +kernel) rfl ?_
    refine pz_add (by decide +kernel) hz11 kz_1 (by omega) (by omega) (fun z12 hz12 => ?_)
    clear hz11
    refine mz_ld148 (by decide +kernel) hc hIq1 hz12 (by omega) (by omega) (fun v13 ev13 pv13 => ?_)
    rw [show A3 148 = A 148 from (hFq1 148 (by decide) (by decide))] at ev13
    have rv13 : 0 ≤ v13.toInt ∧ v13.toInt ≤ 8 := MT_want pv13 (by omega)
    clear pv13
    clear hz12
    refine pe_iret (by decide +kernel) rfl rfl ⟨rfl, rfl, ?_⟩
    show pmE pg X pg_tyl pg_cl (d + 8) 274 33 [.ref 147, .int x1, .int x2, .int x3, .int x4, .int z8, pm_dead] [.int v13, .int z8, .ref 147] (md wc f2 A3) _
    refine pe_aload_n (j := 0) (by decide +kernel) rfl ?_
    refine pe_iload (j := 5) (by decide +kernel) rfl ?_
    refine pe_iload (j := 4) (by decide +kernel) rfl ?_
    refine pe_iconstv (n := 2) (v := 2) (by decide +kernel) (by decide +kernel) ?_
    refine pi_V (j := 172) (mj := 224) (by decide +kernel) (cll_V (args := [.int 2, .int x4, .int z8]) (n := 3) (by decide +kernel) rfl rfl (md_o hc) (by decide +kernel) (Nat.le_of_ble_eq_true rfl) (Nat.le_of_ble_eq_true rfl)) ?_
    show pmE pg X pg_tyl pg_cl (d + 7) 224 0 [.ref 147, .int z8, .int x4, .int 2] [] (md wc f2 A3) _
    refine pe_aload_n (j := 0) (by decide +kernel) rfl ?_
    refine pe_get (j := 7) (ci := 12) (n := 0) (by decide +kernel) (by decide +kernel) (md_o hc) rfl ?_
    refine pe_iload_n (j := 1) (by decide +kernel) rfl ?_
    refine pe_bipushv (n := 102) (v := 102) (by decide +kernel) (by decide +kernel) ?_
    refine pz_add (by decide +kernel) hz8 kz_102 (by omega) (by omega) (fun z14 hz14 => ?_)
    refine pe_iconstv (n := 4) (v := 4) (by decide +kernel) (by decide +kernel) ?_
    refine pe_iload_n (j := 2) (by decide +kernel) rfl ?_
    refine pz_mul (by decide +kernel) kz_4 rfl (by omega) (by omega) (fun z15 hz15 => ?_)
    refine pz_add (by decide +kernel) hz14 hz15 (by omega) (by omega) (fun z16 hz16 => ?_)
    clear hz14 hz15
    refine pe_iload_n (j := 3) (by decide +kernel) rfl ?_
    refine pz_add (by decide +kernel) hz16 kz_2 (by omega) (by omega) (fun z17 hz17 => ?_)
    clear hz16
    refine mz_ld148 (by decide +kernel) hc hIq1 hz17 (by omega) (by omega) (fun v18 ev18 pv18 => ?_)
    rw [show A3 148 = A 148 from (hFq1 148 (by decide) (by decide))] at ev18
    clear pv18
    clear hz17
    refine pe_iret (by decide +kernel) rfl rfl ⟨rfl, rfl, ?_⟩
    show pmE pg X pg_tyl pg_cl (d + 8) 274 42 [.ref 147, .int x1, .int x2, .int x3, .int x4, .int z8, pm_dead] [.int v18, .int v13, .int z8, .ref 147] (md wc f2 A3) _
    refine pz_callV (j := 311) (mj := 275) (by decide +kernel) (cll_V (args := [.int v18, .int v13, .int z8]) (n := 3) (by decide +kernel) rfl rfl (md_o hc) (by decide +kernel) (Nat.le_of_ble_eq_true rfl) (Nat.le_of_ble_eq_true rfl)) (MM_275 hc hIq1 (by omega) (by omega)) (fun q19a q19b q19c q19d hqq19 => ?_)
    obtain ⟨rq19, eq19, kq19⟩ := hqq19
    cases eq19
    refine ⟨rfl, rfl, ?_⟩
    show pmE pg X pg_tyl pg_cl (d + 8) 274 45 [.ref 147, .int x1, .int x2, .int x3, .int x4, .int z8, pm_dead] [.int rq19] (md wc f2 A3) _
    refine pe_istore (j := 6) (ls' := [.ref 147, .int x1, .int x2, .int x3, .int x4, .int z8, .int rq19]) (by decide +kernel) (Nat.le_of_ble_eq_true rfl) rfl ?_
    refine pe_iload (j := 6) (by decide +kernel) rfl ?_
    refine pe_aload_n (j := 0) (by decide +kernel) rfl ?_
    refine pe_iload (j := 5) (by decide +kernel) rfl ?_
    refine pe_iload (j := 4) (by decide +kernel) rfl ?_
    refine pe_iconstv (n := 0) (v := 0) (by decide +kernel) (by decide +kernel) ?_
    refine pi_V (j := 172) (mj := 224) (by decide +kernel) (cll_V (args := [.int 0, .int x4, .int z8]) (n := 3) (by decide +kernel) rfl rfl (md_o hc) (by decide +kernel) (Nat.le_of_ble_eq_true rfl) (Nat.le_of_ble_eq_true rfl)) ?_
    show pmE pg X pg_tyl pg_cl (d + 7) 224 0 [.ref 147, .int z8, .int x4, .int 0] [] (md wc f2 A3) _
    refine pe_aload_n (j := 0) (by decide +kernel) rfl ?_
    refine pe_get (j := 7) (ci := 12) (n := 0) (by decide +kernel) (by decide +kernel) (md_o hc) rfl ?_
    refine pe_iload_n (j := 1) (by decide +kernel) rfl ?_
    refine pe_bipushv (n := 102) (v := 102) (by decide +kernel) (by decide +kernel) ?_
    refine pz_add (by decide +kernel) hz8 kz_102 (by omega) (by omega) (fun z20 hz20 => ?_)
    refine pe_iconstv (n := 4) (v := 4) (by decide +kernel) (by decide +kernel) ?_
    refine pe_iload_n (j := 2) (by decide +kernel) rfl ?_
    refine pz_mul (by decide +kernel) kz_4 rfl (by omega) (by omega) (fun z21 hz21 => ?_)
    refine pz_add (by decide +kernel) hz20 hz21 (by omega) (by omega) (fun z22 hz22 => ?_)
    clear hz20 hz21
    refine pe_iload_n (j := 3) (by decide +kernel) rfl ?_
    refine pz_add (by decide +kernel) hz22 kz_0 (by omega) (by omega) (fun z23 hz23 => ?_)
    clear hz22
    refine mz_ld148 (by decide +kernel) hc hIq1 hz23 (by omega) (by omega) (fun v24 ev24 pv24 => ?_)
    rw [show A3 148 = A 148 from (hFq1 148 (by decide) (by decide))] at ev24
    have rv24 : 0 ≤ v24.toInt ∧ v24.toInt ≤ 8 := MT_want pv24 (by omega)
    clear pv24
    clear hz23
    refine pe_iret (by decide +kernel) rfl rfl ⟨rfl, rfl, ?_⟩
    show pmE pg X pg_tyl pg_cl (d + 8) 274 58 [.ref 147, .int x1, .int x2, .int x3, .int x4, .int z8, .int rq19] [.int v24, .int rq19] (md wc f2 A3) _
    refine pw_shr (by decide +kernel) (fun z25 => ?_)
    refine pe_iconstv (n := 1) (v := 1) (by decide +kernel) (by decide +kernel) ?_
    refine pz_and1 (by decide +kernel) (fun z26 hz26 => ?_)
    refine pe_iconstv (n := 1) (v := 1) (by decide +kernel) (by decide +kernel) ?_
    refine pz_icmp_ne (off := 7) (t := 69) (by decide +kernel) (by decide) rfl rfl kz_1 (fun h27 => ?_) (fun h27 => ?_)
    · skip
      refine pe_iload (j := 6) (by decide +kernel) rfl ?_
      exact pe_iret (by decide +kernel) rfl rfl ⟨f2, A3, rq19, rfl, hIq1, (fun k n14 n15 n16 => (hGq1 k n14 n15 n16)), (fun k n152 n153 => (hFq1 k n152 n153)), ⟨(by omega), trivial⟩⟩
    · skip
      refine pe_iconstv (n := (-1)) (v := (-1)) (by decide +kernel) (by decide +kernel) ?_
      refine pe_goto (off := 5) (t := 71) (by decide +kernel) (by decide) rfl ?_
      exact pe_iret (by decide +kernel) rfl rfl ⟨f2, A3, (-1), rfl, hIq1, (fun k n14 n15 n16 => (hGq1 k n14 n15 n16)), (fun k n152 n153 => (hFq1 k n152 n153)), ⟨(by decide +kernel), trivial⟩⟩
set_option maxRecDepth 100000 in
set_option maxHeartbeats 8000000 in
theorem ML_314_59 {X : pm_X} {d : Nat} {wc : pm_W} {Q : pm_R → Prop} {f : Nat → Int32} {A0 : Nat → List Int32} {x1 x2 x3 x4 x5 x6 x7 : Int32} (hc : wc.length = 147) (gx1 : (0 ≤ x1.toInt ∧ x1.toInt ≤ 1)) (gx2 : ((-1) ≤ x2.toInt ∧ x2.toInt ≤ 2)) (gx3 : (0 ≤ x3.toInt ∧ x3.toInt ≤ 30)) (gx4 : (2 ≤ x4.toInt ∧ x4.toInt ≤ 6)) (gx5 : (0 ≤ x5.toInt)) (gx6 : (1 ≤ x6.toInt ∧ x6.toInt ≤ 99)) (gx7 : (610 ≤ x7.toInt ∧ x7.toInt ≤ 742 ∧ (x7.toInt - 610) % 132 = 0)) (k_137_0 : ∀ (A' : Nat → List Int32) (y8 : Int32) (y9 : Int32) (y10 : Int32), MI f A' → (∀ k : Nat, k ≠ 158 → A' k = A0 k) → (0 ≤ y8.toInt) → ((-1) ≤ y10.toInt ∧ y10.toInt ≤ (-1)) → (∀ j : Int, (y10.toInt + 1) ≤ j → j < (x4.toInt) → 0 ≤ ((A' 158).getD j.toNat 0).toInt ∧ ((A' 158).getD j.toNat 0).toInt ≤ 8) → pmE pg X pg_tyl pg_cl (d + 7) 314 137 [.ref 147, .int x1, .int x2, .int x3, .int x4, .int x5, .int x6, .int x7, .int y8, .int y9, .int y10] [] (md wc f A') Q) (kr_m1 : ∀ (A' : Nat → List Int32), MI f A' → (∀ k : Nat, k ≠ 158 → A' k = A0 k) → Q (some (.int (-1)), md wc f A', 0, 0)) : ∀ (m : Nat) (A : Nat → List Int32) (x8 : Int32) (x9 : Int32) (x10 : Int32), MI f A → (∀ k : Nat, k ≠ 158 → A k = A0 k) → (0 ≤ x8.toInt) → ((-1) ≤ x10.toInt ∧ x10.toInt ≤ 5) → (∀ j : Int, (x10.toInt + 1) ≤ j → j < (x4.toInt) → 0 ≤ ((A 158).getD j.toNat 0).toInt ∧ ((A 158).getD j.toNat 0).toInt ≤ 8) → x10.toInt - (-1) < (m : Int) → pmE pg X pg_tyl pg_cl (d + 7) 314 59 [.ref 147, .int x1, .int x2, .int x3, .int x4, .int x5, .int x6, .int x7, .int x8, .int x9, .int x10] [] (md wc f A) Q := by
  intro m
  induction m with
  | zero =>
    intro A x8 x9 x10 hI hF gx8 gx10 hv0 hm
    exfalso
    have l0 := zi_lo x10
    have u0 := zi_hi x10
    omega
  | succ m ih =>
    intro A x8 x9 x10 hI hF gx8 gx10 hv0 hm
    refine pe_iload (j := 10) (by decide +kernel) rfl ?_
    refine pz_if_lt (off := 76) (t := 137) (by decide +kernel) (by decide) rfl rfl (fun h1 => ?_) (fun h1 => ?_)
    · skip
      have hq2 : (∀ j : Int, (x10.toInt + 1) ≤ j → j < (x4.toInt) → 0 ≤ ((A 158).getD j.toNat 0).toInt ∧ ((A 158).getD j.toNat 0).toInt ≤ 8) := by
        intro j h1 h2
        first
        | (exfalso; omega)
        | exact hv0 j (by omega) (by omega)
      exact k_137_0 A x8 x9 x10 hI (fun k n158 => (hF k n158)) (by omega) (by omega) hq2
    · skip
      refine pe_aload_n (j := 0) (by decide +kernel) rfl ?_
      refine pe_get (j := 41) (ci := 12) (n := 21) (by decide +kernel) (by decide +kernel) (md_o hc) rfl ?_
      refine pe_iload (j := 10) (by decide +kernel) rfl ?_
      refine pe_iload (j := 8) (by decide +kernel) rfl ?_
      refine pe_bipushv (n := 10) (v := 10) (by decide +kernel) (by decide +kernel) ?_
      refine pz_rem (by decide +kernel) rfl kz_10 (by omega) (by omega) (fun z3 hz3 gz3 kz3 => ?_)
      refine mz_st158 (by decide +kernel) hc hI rfl (by omega) (by omega) (by simp only [MP_round]; omega) (fun A4 eA4 hIA4 => ?_)
      refine pe_iload (j := 8) (by decide +kernel) rfl ?_
      refine pe_bipushv (n := 10) (v := 10) (by decide +kernel) (by decide +kernel) ?_
      refine pz_div (by decide +kernel) rfl kz_10 (by omega) (by omega) (fun z5 hz5 => ?_)
      refine pe_istore (j := 8) (ls' := [.ref 147, .int x1, .int x2, .int x3, .int x4, .int x5, .int x6, .int x7, .int z5, .int x9, .int x10]) (by decide +kernel) (Nat.le_of_ble_eq_true rfl) rfl ?_
      refine pe_aload_n (j := 0) (by decide +kernel) rfl ?_
      refine pe_iload (j := 7) (by decide +kernel) rfl ?_
      refine pe_aload_n (j := 0) (by decide +kernel) rfl ?_
      refine pe_get (j := 41) (ci := 12) (n := 21) (by decide +kernel) (by decide +kernel) (md_o hc) rfl ?_
      refine pe_iload (j := 10) (by decide +kernel) rfl ?_
      refine mz_ld158 (by decide +kernel) hc hIA4 rfl (by omega) (by omega) (fun v6 ev6 pv6 => ?_)
      have rv6 : 0 ≤ v6.toInt ∧ v6.toInt ≤ 9 := by have p := pv6; simp only [MP_round] at p; omega
      clear pv6
      refine pi_V (j := 166) (mj := 221) (by decide +kernel) (cll_V (args := [.int v6, .int x7]) (n := 2) (by decide +kernel) rfl rfl (md_o hc) (by decide +kernel) (Nat.le_of_ble_eq_true rfl) (Nat.le_of_ble_eq_true rfl)) ?_
      show pmE pg X pg_tyl pg_cl (d + 6) 221 0 [.ref 147, .int x7, .int v6] [] (md wc f A4) _
      refine pe_iload_n (j := 2) (by decide +kernel) rfl ?_
      refine pe_iconstv (n := 0) (v := 0) (by decide +kernel) (by decide +kernel) ?_
      refine pe_aload_n (j := 0) (by decide +kernel) rfl ?_
      refine pe_get (j := 7) (ci := 12) (n := 0) (by decide +kernel) (by decide +kernel) (md_o hc) rfl ?_
      refine pe_iload_n (j := 1) (by decide +kernel) rfl ?_
      refine mz_ld148 (by decide +kernel) hc hIA4 rfl (by omega) (by omega) (fun v7 ev7 pv7 => ?_)
      rw [show A4 148 = A0 148 from (upa_fr eA4 (by decide)).trans ((hF 148 (by decide)))] at ev7
      have rv7 : 0 ≤ v7.toInt ∧ v7.toInt ≤ 9 := MT_people pv7 (by omega)
      clear pv7
      refine pe_iconstv (n := 1) (v := 1) (by decide +kernel) (by decide +kernel) ?_
      refine pz_sub (by decide +kernel) rfl kz_1 (by omega) (by omega) (fun z8 hz8 => ?_)
      refine pi_S (j := 119) (mj := 199) (by decide +kernel) (by decide +kernel) rfl ?_
      show pmE pg X pg_tyl pg_cl (d + 5) 199 0 [.int v6, .int 0, .int z8] [] (md wc f A4) _
      refine pe_iload_n (j := 0) (by decide +kernel) rfl ?_
      refine pe_iload_n (j := 1) (by decide +kernel) rfl ?_
      refine pz_icmp_lt (off := 12) (t := 14) (by decide +kernel) (by decide) rfl rfl kz_0 (fun h9 => by omega) (fun h9 => ?_)
      refine pe_iload_n (j := 0) (by decide +kernel) rfl ?_
      refine pe_iload_n (j := 2) (by decide +kernel) rfl ?_
      refine pz_icmp_gt (off := 7) (t := 14) (by decide +kernel) (by decide) rfl rfl hz8 (fun h10 => ?_) (fun h10 => ?_)
      · skip
        refine pe_iconstv (n := 0) (v := 0) (by decide +kernel) (by decide +kernel) ?_
        refine pe_iret (by decide +kernel) rfl rfl ⟨rfl, rfl, ?_⟩
        show pmE pg X pg_tyl pg_cl (d + 6) 221 13 [.ref 147, .int x7, .int v6] [.int 0] (md wc f A4) _
        refine pe_iret (by decide +kernel) rfl rfl ⟨rfl, rfl, ?_⟩
        show pmE pg X pg_tyl pg_cl (d + 7) 314 96 [.ref 147, .int x1, .int x2, .int x3, .int x4, .int x5, .int x6, .int x7, .int z5, .int x9, .int x10] [.int 0] (md wc f A4) _
        refine pz_if_eq (off := 19) (t := 115) (by decide +kernel) (by decide) rfl kz_0 (fun h11 => ?_) (fun h11 => by omega)
        refine pe_iconstv (n := (-1)) (v := (-1)) (by decide +kernel) (by decide +kernel) ?_
        exact pe_iret (by decide +kernel) rfl rfl (kr_m1 A4 hIA4 (fun k n158 => (upa_fr eA4 n158).trans ((hF k n158))))
      · skip
        refine pe_iconstv (n := 1) (v := 1) (by decide +kernel) (by decide +kernel) ?_
        refine pe_goto (off := 4) (t := 15) (by decide +kernel) (by decide) rfl ?_
        refine pe_iret (by decide +kernel) rfl rfl ⟨rfl, rfl, ?_⟩
        show pmE pg X pg_tyl pg_cl (d + 6) 221 13 [.ref 147, .int x7, .int v6] [.int 1] (md wc f A4) _
        refine pe_iret (by decide +kernel) rfl rfl ⟨rfl, rfl, ?_⟩
        show pmE pg X pg_tyl pg_cl (d + 7) 314 96 [.ref 147, .int x1, .int x2, .int x3, .int x4, .int x5, .int x6, .int x7, .int z5, .int x9, .int x10] [.int 1] (md wc f A4) _
        refine pz_if_eq (off := 19) (t := 115) (by decide +kernel) (by decide) rfl kz_1 (fun h12 => by omega) (fun h12 => ?_)
        refine pe_iload (j := 9) (by decide +kernel) rfl ?_
        refine pe_aload_n (j := 0) (by decide +kernel) rfl ?_
        refine pe_get (j := 41) (ci := 12) (n := 21) (by decide +kernel) (by decide +kernel) (md_o hc) rfl ?_
        refine pe_iload (j := 10) (by decide +kernel) rfl ?_
        refine mz_ld158 (by decide +kernel) hc hIA4 rfl (by omega) (by omega) (fun v13 ev13 pv13 => ?_)
        rw [ev13.trans ev6.symm]
        clear pv13 ev13 v13
        refine pw_shr (by decide +kernel) (fun z14 => ?_)
        refine pe_iconstv (n := 1) (v := 1) (by decide +kernel) (by decide +kernel) ?_
        refine pz_and1 (by decide +kernel) (fun z15 hz15 => ?_)
        refine pe_iconstv (n := 1) (v := 1) (by decide +kernel) (by decide +kernel) ?_
        refine pz_icmp_ne (off := 5) (t := 117) (by decide +kernel) (by decide) rfl rfl kz_1 (fun h16 => ?_) (fun h16 => ?_)
        · skip
          refine pe_iload (j := 9) (by decide +kernel) rfl ?_
          refine pe_iconstv (n := 1) (v := 1) (by decide +kernel) (by decide +kernel) ?_
          refine pe_aload_n (j := 0) (by decide +kernel) rfl ?_
          refine pe_get (j := 41) (ci := 12) (n := 21) (by decide +kernel) (by decide +kernel) (md_o hc) rfl ?_
          refine pe_iload (j := 10) (by decide +kernel) rfl ?_
          refine mz_ld158 (by decide +kernel) hc hIA4 rfl (by omega) (by omega) (fun v17 ev17 pv17 => ?_)
          rw [ev17.trans ev6.symm]
          clear pv17 ev17 v17
          refine pz_shl1 (by decide +kernel) rfl (by omega) (by omega) (fun z18 hz18 => ?_)
          refine pw_or (by decide +kernel) (fun z19 => ?_)
          refine pe_istore (j := 9) (ls' := [.ref 147, .int x1, .int x2, .int x3, .int x4, .int x5, .int x6, .int x7, .int z5, .int z19, .int x10]) (by decide +kernel) (Nat.le_of_ble_eq_true rfl) rfl ?_
          refine pz_iinc (j := 10) (n := (-1)) (by decide +kernel) rfl rfl (by decide +kernel) (by omega) (by omega) (fun z20 hz20 => ?_)
          show pmE pg X pg_tyl pg_cl (d + 7) 314 134 [.ref 147, .int x1, .int x2, .int x3, .int x4, .int x5, .int x6, .int x7, .int z5, .int z19, .int z20] [] (md wc f A4) _
          refine pe_goto (off := (-75)) (t := 59) (by decide +kernel) (by decide) rfl ?_
          have hq21 : (∀ j : Int, (z20.toInt + 1) ≤ j → j < (x4.toInt) → 0 ≤ ((A4 158).getD j.toNat 0).toInt ∧ ((A4 158).getD j.toNat 0).toInt ≤ 8) := by
            intro j h1 h2
            first
            | (exfalso; omega)
            | (by_cases e : j.toNat = (x10.toInt).toNat
               · rw [e, ← ev6]; omega
               · rw [upa_at eA4, gz_ne (by omega)]; exact hv0 j (by omega) (by omega))
          exact ih A4 z5 z19 z20 hIA4 (fun k n158 => (upa_fr eA4 n158).trans ((hF k n158))) (by omega) (by omega) hq21 (by omega)
        · skip
          refine pe_iconstv (n := (-1)) (v := (-1)) (by decide +kernel) (by decide +kernel) ?_
          exact pe_iret (by decide +kernel) rfl rfl (kr_m1 A4 hIA4 (fun k n158 => (upa_fr eA4 n158).trans ((hF k n158))))
set_option maxRecDepth 100000 in
set_option maxHeartbeats 8000000 in
theorem MM_314 {X : pm_X} {d : Nat} {wc : pm_W} {f : Nat → Int32} {A : Nat → List Int32} {x1 x2 x3 x4 x5 x6 : Int32} (hc : wc.length = 147) (hI : MI f A) : pmE pg X pg_tyl pg_cl (d + 7) 314 0 (pm_ent (pm_max pg 314) [.ref 147, .int x1, .int x2, .int x3, .int x4, .int x5, .int x6]) [] (md wc f A) (fun q => ∃ (f' : Nat → Int32) (A' : Nat → List Int32) (r : Int32), q = (some (.int r), md wc f' A', 0, 0) ∧ MI f' A' ∧ (∀ k : Nat, k ≠ 14 → k ≠ 15 → k ≠ 16 → f' k = f k) ∧ (∀ k : Nat, k ≠ 152 → k ≠ 153 → k ≠ 158 → A' k = A k) ∧ ((r = (-1) ∧ True) ∨ (r = 0 ∧ (0 ≤ x1.toInt ∧ x1.toInt ≤ 1) ∧ ((-1) ≤ x2.toInt ∧ x2.toInt ≤ 2) ∧ (0 ≤ x3.toInt ∧ x3.toInt ≤ 30) ∧ (2 ≤ x4.toInt ∧ x4.toInt ≤ 6) ∧ (0 ≤ x5.toInt) ∧ (1 ≤ x6.toInt ∧ x6.toInt ≤ 99)) ∨ (r = 1 ∧ (0 ≤ x1.toInt ∧ x1.toInt ≤ 1) ∧ ((-1) ≤ x2.toInt ∧ x2.toInt ≤ 2) ∧ (0 ≤ x3.toInt ∧ x3.toInt ≤ 30) ∧ (2 ≤ x4.toInt ∧ x4.toInt ≤ 6) ∧ (0 ≤ x5.toInt) ∧ (1 ≤ x6.toInt ∧ x6.toInt ≤ 99)))) := by
  show pmE pg X pg_tyl pg_cl (d + 7) 314 0 [.ref 147, .int x1, .int x2, .int x3, .int x4, .int x5, .int x6, pm_dead, pm_dead, pm_dead, pm_dead] [] (md wc f A) _
  refine pe_aload_n (j := 0) (by decide +kernel) rfl ?_
  refine pe_iload_n (j := 1) (by decide +kernel) rfl ?_
  refine pe_iload_n (j := 2) (by decide +kernel) rfl ?_
  refine pe_iload_n (j := 3) (by decide +kernel) rfl ?_
  refine pz_callV (j := 232) (mj := 246) (by decide +kernel) (cll_V (args := [.int x3, .int x2, .int x1]) (n := 3) (by decide +kernel) rfl rfl (md_o hc) (by decide +kernel) (Nat.le_of_ble_eq_true rfl) (Nat.le_of_ble_eq_true rfl)) (MM_246 hc hI) (fun q1a q1b q1c q1d hqq1 => ?_)
  obtain ⟨f2, A3, rq1, eq1, hIq1, hGq1, hFq1, kq1⟩ := hqq1
  cases eq1
  refine ⟨rfl, rfl, ?_⟩
  rcases kq1 with kq1 | kq1
  · skip
    obtain ⟨erq1, kq1⟩ := kq1
    subst erq1
    show pmE pg X pg_tyl pg_cl (d + 7) 314 7 [.ref 147, .int x1, .int x2, .int x3, .int x4, .int x5, .int x6, pm_dead, pm_dead, pm_dead, pm_dead] [.int 0] (md wc f2 A3) _
    refine pz_if_eq (off := 30) (t := 37) (by decide +kernel) (by decide) rfl kz_0 (fun h4 => ?_) (fun h4 => by omega)
    refine pe_iconstv (n := (-1)) (v := (-1)) (by decide +kernel) (by decide +kernel) ?_
    exact pe_iret (by decide +kernel) rfl rfl ⟨f2, A3, (-1), rfl, hIq1, (fun k n14 n15 n16 => (hGq1 k n14 n15 n16)), (fun k n152 n153 n158 => (hFq1 k n152 n153)), Or.inl ⟨rfl, trivial⟩⟩
  · skip
    obtain ⟨erq1, kq1⟩ := kq1
    subst erq1
    show pmE pg X pg_tyl pg_cl (d + 7) 314 7 [.ref 147, .int x1, .int x2, .int x3, .int x4, .int x5, .int x6, pm_dead, pm_dead, pm_dead, pm_dead] [.int 1] (md wc f2 A3) _
    refine pz_if_eq (off := 30) (t := 37) (by decide +kernel) (by decide) rfl kz_1 (fun h5 => by omega) (fun h5 => ?_)
    refine pe_iload (j := 4) (by decide +kernel) rfl ?_
    refine pe_iconstv (n := 2) (v := 2) (by decide +kernel) (by decide +kernel) ?_
    refine pe_bipushv (n := 6) (v := 6) (by decide +kernel) (by decide +kernel) ?_
    refine pi_S (j := 119) (mj := 199) (by decide +kernel) (by decide +kernel) rfl ?_
    show pmE pg X pg_tyl pg_cl (d + 6) 199 0 [.int x4, .int 2, .int 6] [] (md wc f2 A3) _
    refine pe_iload_n (j := 0) (by decide +kernel) rfl ?_
    refine pe_iload_n (j := 1) (by decide +kernel) rfl ?_
    have lw7 := zi_lo x4
    have uw7 := zi_hi x4
    refine pz_icmp_lt (off := 12) (t := 14) (by decide +kernel) (by decide) rfl rfl kz_2 (fun h6 => ?_) (fun h6 => ?_)
    · skip
      refine pe_iconstv (n := 0) (v := 0) (by decide +kernel) (by decide +kernel) ?_
      refine pe_iret (by decide +kernel) rfl rfl ⟨rfl, rfl, ?_⟩
      show pmE pg X pg_tyl pg_cl (d + 7) 314 18 [.ref 147, .int x1, .int x2, .int x3, .int x4, .int x5, .int x6, pm_dead, pm_dead, pm_dead, pm_dead] [.int 0] (md wc f2 A3) _
      refine pz_if_eq (off := 19) (t := 37) (by decide +kernel) (by decide) rfl kz_0 (fun h8 => ?_) (fun h8 => by omega)
      refine pe_iconstv (n := (-1)) (v := (-1)) (by decide +kernel) (by decide +kernel) ?_
      exact pe_iret (by decide +kernel) rfl rfl ⟨f2, A3, (-1), rfl, hIq1, (fun k n14 n15 n16 => (hGq1 k n14 n15 n16)), (fun k n152 n153 n158 => (hFq1 k n152 n153)), Or.inl ⟨rfl, trivial⟩⟩
    · skip
      refine pe_iload_n (j := 0) (by decide +kernel) rfl ?_
      refine pe_iload_n (j := 2) (by decide +kernel) rfl ?_
      refine pz_icmp_gt (off := 7) (t := 14) (by decide +kernel) (by decide) rfl rfl kz_6 (fun h9 => ?_) (fun h9 => ?_)
      · skip
        refine pe_iconstv (n := 0) (v := 0) (by decide +kernel) (by decide +kernel) ?_
        refine pe_iret (by decide +kernel) rfl rfl ⟨rfl, rfl, ?_⟩
        show pmE pg X pg_tyl pg_cl (d + 7) 314 18 [.ref 147, .int x1, .int x2, .int x3, .int x4, .int x5, .int x6, pm_dead, pm_dead, pm_dead, pm_dead] [.int 0] (md wc f2 A3) _
        refine pz_if_eq (off := 19) (t := 37) (by decide +kernel) (by decide) rfl kz_0 (fun h10 => ?_) (fun h10 => by omega)
        refine pe_iconstv (n := (-1)) (v := (-1)) (by decide +kernel) (by decide +kernel) ?_
        exact pe_iret (by decide +kernel) rfl rfl ⟨f2, A3, (-1), rfl, hIq1, (fun k n14 n15 n16 => (hGq1 k n14 n15 n16)), (fun k n152 n153 n158 => (hFq1 k n152 n153)), Or.inl ⟨rfl, trivial⟩⟩
      · skip
        refine pe_iconstv (n := 1) (v := 1) (by decide +kernel) (by decide +kernel) ?_
        refine pe_goto (off := 4) (t := 15) (by decide +kernel) (by decide) rfl ?_
        refine pe_iret (by decide +kernel) rfl rfl ⟨rfl, rfl, ?_⟩
        show pmE pg X pg_tyl pg_cl (d + 7) 314 18 [.ref 147, .int x1, .int x2, .int x3, .int x4, .int x5, .int x6, pm_dead, pm_dead, pm_dead, pm_dead] [.int 1] (md wc f2 A3) _
        refine pz_if_eq (off := 19) (t := 37) (by decide +kernel) (by decide) rfl kz_1 (fun h11 => by omega) (fun h11 => ?_)
        refine pe_iload (j := 5) (by decide +kernel) rfl ?_
        have lw13 := zi_lo x5
        have uw13 := zi_hi x5
        refine pz_if_lt (off := 14) (t := 37) (by decide +kernel) (by decide) rfl rfl (fun h12 => ?_) (fun h12 => ?_)
        · skip
          refine pe_iconstv (n := (-1)) (v := (-1)) (by decide +kernel) (by decide +kernel) ?_
          exact pe_iret (by decide +kernel) rfl rfl ⟨f2, A3, (-1), rfl, hIq1, (fun k n14 n15 n16 => (hGq1 k n14 n15 n16)), (fun k n152 n153 n158 => (hFq1 k n152 n153)), Or.inl ⟨rfl, trivial⟩⟩
        · skip
          refine pe_iload (j := 6) (by decide +kernel) rfl ?_
          refine pe_iconstv (n := 1) (v := 1) (by decide +kernel) (by decide +kernel) ?_
          refine pe_bipushv (n := 99) (v := 99) (by decide +kernel) (by decide +kernel) ?_
          refine pi_S (j := 119) (mj := 199) (by decide +kernel) (by decide +kernel) rfl ?_
          show pmE pg X pg_tyl pg_cl (d + 6) 199 0 [.int x6, .int 1, .int 99] [] (md wc f2 A3) _
          refine pe_iload_n (j := 0) (by decide +kernel) rfl ?_
          refine pe_iload_n (j := 1) (by decide +kernel) rfl ?_
          have lw15 := zi_lo x6
          have uw15 := zi_hi x6
          refine pz_icmp_lt (off := 12) (t := 14) (by decide +kernel) (by decide) rfl rfl kz_1 (fun h14 => ?_) (fun h14 => ?_)
          · skip
            refine pe_iconstv (n := 0) (v := 0) (by decide +kernel) (by decide +kernel) ?_
            refine pe_iret (by decide +kernel) rfl rfl ⟨rfl, rfl, ?_⟩
            show pmE pg X pg_tyl pg_cl (d + 7) 314 34 [.ref 147, .int x1, .int x2, .int x3, .int x4, .int x5, .int x6, pm_dead, pm_dead, pm_dead, pm_dead] [.int 0] (md wc f2 A3) _
            refine pz_if_ne (off := 5) (t := 39) (by decide +kernel) (by decide) rfl kz_0 (fun h16 => by omega) (fun h16 => ?_)
            refine pe_iconstv (n := (-1)) (v := (-1)) (by decide +kernel) (by decide +kernel) ?_
            exact pe_iret (by decide +kernel) rfl rfl ⟨f2, A3, (-1), rfl, hIq1, (fun k n14 n15 n16 => (hGq1 k n14 n15 n16)), (fun k n152 n153 n158 => (hFq1 k n152 n153)), Or.inl ⟨rfl, trivial⟩⟩
          · skip
            refine pe_iload_n (j := 0) (by decide +kernel) rfl ?_
            refine pe_iload_n (j := 2) (by decide +kernel) rfl ?_
            refine pz_icmp_gt (off := 7) (t := 14) (by decide +kernel) (by decide) rfl rfl kz_99 (fun h17 => ?_) (fun h17 => ?_)
            · skip
              refine pe_iconstv (n := 0) (v := 0) (by decide +kernel) (by decide +kernel) ?_
              refine pe_iret (by decide +kernel) rfl rfl ⟨rfl, rfl, ?_⟩
              show pmE pg X pg_tyl pg_cl (d + 7) 314 34 [.ref 147, .int x1, .int x2, .int x3, .int x4, .int x5, .int x6, pm_dead, pm_dead, pm_dead, pm_dead] [.int 0] (md wc f2 A3) _
              refine pz_if_ne (off := 5) (t := 39) (by decide +kernel) (by decide) rfl kz_0 (fun h18 => by omega) (fun h18 => ?_)
              refine pe_iconstv (n := (-1)) (v := (-1)) (by decide +kernel) (by decide +kernel) ?_
              exact pe_iret (by decide +kernel) rfl rfl ⟨f2, A3, (-1), rfl, hIq1, (fun k n14 n15 n16 => (hGq1 k n14 n15 n16)), (fun k n152 n153 n158 => (hFq1 k n152 n153)), Or.inl ⟨rfl, trivial⟩⟩
            · skip
              refine pe_iconstv (n := 1) (v := 1) (by decide +kernel) (by decide +kernel) ?_
              refine pe_goto (off := 4) (t := 15) (by decide +kernel) (by decide) rfl ?_
              refine pe_iret (by decide +kernel) rfl rfl ⟨rfl, rfl, ?_⟩
              show pmE pg X pg_tyl pg_cl (d + 7) 314 34 [.ref 147, .int x1, .int x2, .int x3, .int x4, .int x5, .int x6, pm_dead, pm_dead, pm_dead, pm_dead] [.int 1] (md wc f2 A3) _
              refine pz_if_ne (off := 5) (t := 39) (by decide +kernel) (by decide) rfl kz_1 (fun h19 => ?_) (fun h19 => by omega)
              refine pe_iconstv (n := 0) (v := 0) (by decide +kernel) (by decide +kernel) ?_
              refine pe_iload_n (j := 1) (by decide +kernel) rfl ?_
              refine pi_S (j := 163) (mj := 217) (by decide +kernel) (by decide +kernel) rfl ?_
              show pmE pg X pg_tyl pg_cl (d + 6) 217 0 [.int 0, .int x1] [] (md wc f2 A3) _
              refine pe_iload_n (j := 0) (by decide +kernel) rfl ?_
              refine pz_if_ne (off := 15) (t := 16) (by decide +kernel) (by decide) rfl kz_0 (fun h20 => by omega) (fun h20 => ?_)
              refine pe_sipushv (n := 610) (v := 610) (by decide +kernel) (by decide +kernel) ?_
              refine pe_sipushv (n := 132) (v := 132) (by decide +kernel) (by decide +kernel) ?_
              refine pe_iload_n (j := 1) (by decide +kernel) rfl ?_
              refine pz_mul (by decide +kernel) kz_132 rfl (by omega) (by omega) (fun z21 hz21 => ?_)
              refine pz_add (by decide +kernel) kz_610 hz21 (by omega) (by omega) (fun z22 hz22 => ?_)
              clear hz21
              refine pe_goto (off := 12) (t := 25) (by decide +kernel) (by decide) rfl ?_
              refine pe_iret (by decide +kernel) rfl rfl ⟨rfl, rfl, ?_⟩
              show pmE pg X pg_tyl pg_cl (d + 7) 314 44 [.ref 147, .int x1, .int x2, .int x3, .int x4, .int x5, .int x6, pm_dead, pm_dead, pm_dead, pm_dead] [.int z22] (md wc f2 A3) _
              refine pe_istore (j := 7) (ls' := [.ref 147, .int x1, .int x2, .int x3, .int x4, .int x5, .int x6, .int z22, pm_dead, pm_dead, pm_dead]) (by decide +kernel) (Nat.le_of_ble_eq_true rfl) rfl ?_
              refine pe_iload (j := 5) (by decide +kernel) rfl ?_
              refine pe_istore (j := 8) (ls' := [.ref 147, .int x1, .int x2, .int x3, .int x4, .int x5, .int x6, .int z22, .int x5, pm_dead, pm_dead]) (by decide +kernel) (Nat.le_of_ble_eq_true rfl) rfl ?_
              refine pe_iconstv (n := 0) (v := 0) (by decide +kernel) (by decide +kernel) ?_
              refine pe_istore (j := 9) (ls' := [.ref 147, .int x1, .int x2, .int x3, .int x4, .int x5, .int x6, .int z22, .int x5, .int 0, pm_dead]) (by decide +kernel) (Nat.le_of_ble_eq_true rfl) rfl ?_
              refine pe_iload (j := 4) (by decide +kernel) rfl ?_
              refine pe_iconstv (n := 1) (v := 1) (by decide +kernel) (by decide +kernel) ?_
              refine pz_sub (by decide +kernel) rfl kz_1 (by omega) (by omega) (fun z23 hz23 => ?_)
              refine pe_istore (j := 10) (ls' := [.ref 147, .int x1, .int x2, .int x3, .int x4, .int x5, .int x6, .int z22, .int x5, .int 0, .int z23]) (by decide +kernel) (Nat.le_of_ble_eq_true rfl) rfl ?_
              have hq32 : (∀ j : Int, (z23.toInt + 1) ≤ j → j < (x4.toInt) → 0 ≤ ((A3 158).getD j.toNat 0).toInt ∧ ((A3 158).getD j.toNat 0).toInt ≤ 8) := by
                intro j h1 h2
                rw [show A3 158 = A 158 from (hFq1 158 (by decide) (by decide))]
                first
                | (exfalso; omega)
              refine ML_314_59 hc (by omega) (by omega) (by omega) (by omega) (by omega) (by omega) (by omega) (fun A24 y26 y27 y28 hIy25 hFhIy25 gy26 gy28 hq29 => ?_) (fun A30 hIy31 hFhIy31 => ⟨f2, A30, (-1), rfl, hIy31, (fun k n14 n15 n16 => (hGq1 k n14 n15 n16)), (fun k n152 n153 n158 => ((hFhIy31 k n158)).trans ((hFq1 k n152 n153))), Or.inl ⟨rfl, trivial⟩⟩) 7 A3 x5 0 z23 hIq1 (fun k _ => rfl) (by omega) (by omega) hq32 (by have l0 := zi_lo z23; have u0 := zi_hi z23; omega)
              refine pe_iload (j := 8) (by decide +kernel) rfl ?_
              have lw34 := zi_lo y26
              have uw34 := zi_hi y26
              refine pz_if_le (off := 7) (t := 146) (by decide +kernel) (by decide) rfl rfl (fun h33 => ?_) (fun h33 => ?_)
              · skip
                refine pe_aload_n (j := 0) (by decide +kernel) rfl ?_
                refine pe_iload (j := 7) (by decide +kernel) rfl ?_
                refine pe_iload (j := 4) (by decide +kernel) rfl ?_
                refine pe_iload (j := 6) (by decide +kernel) rfl ?_
                have hq35 : (∀ j : Int, (0) ≤ j → j < (x4.toInt) → 0 ≤ ((A24 158).getD j.toNat 0).toInt ∧ ((A24 158).getD j.toNat 0).toInt ≤ 8) := by
                  intro j h1 h2
                  first
                  | (exfalso; omega)
                  | exact hq29 j (by omega) (by omega)
                refine pz_callV (j := 293) (mj := 269) (by decide +kernel) (cll_V (args := [.int x6, .int x4, .int z22]) (n := 3) (by decide +kernel) rfl rfl (md_o hc) (by decide +kernel) (Nat.le_of_ble_eq_true rfl) (Nat.le_of_ble_eq_true rfl)) (MM_269 hc hIy25 (by omega) (by omega) hq35) (fun q36a q36b q36c q36d hqq36 => ?_)
                obtain ⟨rq36, eq36, kq36⟩ := hqq36
                cases eq36
                refine ⟨rfl, rfl, ?_⟩
                show pmE pg X pg_tyl pg_cl (d + 7) 314 156 [.ref 147, .int x1, .int x2, .int x3, .int x4, .int x5, .int x6, .int z22, .int y26, .int y27, .int y28] [.int rq36] (md wc f2 A24) _
                refine pz_if_eq (off := 7) (t := 163) (by decide +kernel) (by decide) rfl rfl (fun h37 => ?_) (fun h37 => ?_)
                · skip
                  refine pe_iconstv (n := 0) (v := 0) (by decide +kernel) (by decide +kernel) ?_
                  exact pe_iret (by decide +kernel) rfl rfl ⟨f2, A24, 0, rfl, hIy25, (fun k n14 n15 n16 => (hGq1 k n14 n15 n16)), (fun k n152 n153 n158 => ((hFhIy25 k n158)).trans ((hFq1 k n152 n153))), Or.inr (Or.inl ⟨rfl, (by omega)⟩)⟩
                · skip
                  refine pe_iconstv (n := 1) (v := 1) (by decide +kernel) (by decide +kernel) ?_
                  refine pe_goto (off := 4) (t := 164) (by decide +kernel) (by decide) rfl ?_
                  exact pe_iret (by decide +kernel) rfl rfl ⟨f2, A24, 1, rfl, hIy25, (fun k n14 n15 n16 => (hGq1 k n14 n15 n16)), (fun k n152 n153 n158 => ((hFhIy25 k n158)).trans ((hFq1 k n152 n153))), Or.inr (Or.inr (⟨rfl, (by omega)⟩))⟩
              · skip
                refine pe_iconstv (n := (-1)) (v := (-1)) (by decide +kernel) (by decide +kernel) ?_
                refine pe_goto (off := 21) (t := 164) (by decide +kernel) (by decide) rfl ?_
                exact pe_iret (by decide +kernel) rfl rfl ⟨f2, A24, (-1), rfl, hIy25, (fun k n14 n15 n16 => (hGq1 k n14 n15 n16)), (fun k n152 n153 n158 => ((hFhIy25 k n158)).trans ((hFq1 k n152 n153))), Or.inl ⟨rfl, trivial⟩⟩
