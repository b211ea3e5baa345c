section
set_option maxRecDepth 100000 in
set_option maxHeartbeats 8000000 in
theorem ML_261_57 {X : pm_X} {d : Nat} {wc : pm_W} {Q : pm_R → Prop} {f : Nat → Int32} {A : Nat → List Int32} {x1 x2 x3 x4 x6 : Int32} (hc : wc.length = 147) (hI : MI f A) (gx1 : (610 ≤ x1.toInt ∧ x1.toInt ≤ 742 ∧ (x1.toInt - 610) % 132 = 0)) (gx4 : (0 ≤ x4.toInt ∧ x4.toInt ≤ 8)) (gx6 : (0 ≤ x6.toInt ∧ x6.toInt ≤ 8)) (k_101_0 : ∀ (y5 : Int32) (y7 : Int32), (0 ≤ y7.toInt ∧ y7.toInt ≤ 9) → pmE pg X pg_tyl pg_cl (d + 3) 261 101 [.ref 147, .int x1, .int x2, .int x3, .int x4, .int y5, .int x6, .int y7] [] (md wc f A) Q) : ∀ (m : Nat) (x5 : Int32) (x7 : Int32), (0 ≤ x7.toInt ∧ x7.toInt ≤ 9) → 9 - x7.toInt < (m : Int) → pmE pg X pg_tyl pg_cl (d + 3) 261 57 [.ref 147, .int x1, .int x2, .int x3, .int x4, .int x5, .int x6, .int x7] [] (md wc f A) Q := by
  intro m
  induction m with
  | zero =>
    intro x5 x7 gx7 hm
    exfalso
    have l0 := zi_lo x7
    have u0 := zi_hi x7
    omega
  | succ m ih =>
    intro x5 x7 gx7 hm
    refine pe_iload (j := 7) (by decide +kernel) rfl ?_
    refine pe_aload_n (j := 0) (by decide +kernel) rfl ?_
    refine pe_get (j := 7) (ci := 12) (n := 0) (by decide +kernel) (by decide +kernel) (md_o hc) rfl ?_
    refine pe_iload_n (j := 1) (by decide +kernel) rfl ?_
    refine mz_ld148 (by decide +kernel) hc hI rfl (by omega) (by omega) (fun v1 ev1 pv1 => ?_)
    have rv1 : 0 ≤ v1.toInt ∧ v1.toInt ≤ 9 := MT_people pv1 (by omega)
    clear pv1
    refine pz_icmp_ge (off := 36) (t := 101) (by decide +kernel) (by decide) rfl rfl rfl (fun h2 => ?_) (fun h2 => ?_)
    · skip
      exact k_101_0 x5 x7 (by omega)
    · skip
      refine pe_iload (j := 5) (by decide +kernel) rfl ?_
      refine pe_iload (j := 5) (by decide +kernel) rfl ?_
      refine pe_iload (j := 7) (by decide +kernel) rfl ?_
      refine pw_shr (by decide +kernel) (fun z3 => ?_)
      refine pe_iconstv (n := 1) (v := 1) (by decide +kernel) (by decide +kernel) ?_
      refine pz_and1 (by decide +kernel) (fun z4 hz4 => ?_)
      refine pe_iconstv (n := 1) (v := 1) (by decide +kernel) (by decide +kernel) ?_
      refine pz_icmp_ne (off := 13) (t := 91) (by decide +kernel) (by decide) rfl rfl kz_1 (fun h5 => ?_) (fun h5 => ?_)
      · skip
        refine pe_iconstv (n := 0) (v := 0) (by decide +kernel) (by decide +kernel) ?_
        refine pw_or (by decide +kernel) (fun z6 => ?_)
        refine pe_istore (j := 5) (ls' := [.ref 147, .int x1, .int x2, .int x3, .int x4, .int z6, .int x6, .int x7]) (by decide +kernel) (Nat.le_of_ble_eq_true rfl) rfl ?_
        refine pz_iinc (j := 7) (n := 1) (by decide +kernel) rfl rfl (by decide +kernel) (by omega) (by omega) (fun z7 hz7 => ?_)
        show pmE pg X pg_tyl pg_cl (d + 3) 261 98 [.ref 147, .int x1, .int x2, .int x3, .int x4, .int z6, .int x6, .int z7] [] (md wc f A) _
        refine pe_goto (off := (-41)) (t := 57) (by decide +kernel) (by decide) rfl ?_
        exact ih z6 z7 (by omega) (by omega)
      · skip
        refine pe_aload_n (j := 0) (by decide +kernel) rfl ?_
        refine pe_iload_n (j := 1) (by decide +kernel) rfl ?_
        refine pe_iload (j := 7) (by decide +kernel) rfl ?_
        refine pz_callV (j := 251) (mj := 260) (by decide +kernel) (cll_V (args := [.int x7, .int x1]) (n := 2) (by decide +kernel) rfl rfl (md_o hc) (by decide +kernel) (Nat.le_of_ble_eq_true rfl) (Nat.le_of_ble_eq_true rfl)) (MM_260 hc hI (by omega) (by omega)) (fun q8a q8b q8c q8d hqq8 => ?_)
        obtain ⟨rq8, eq8, kq8⟩ := hqq8
        cases eq8
        refine ⟨rfl, rfl, ?_⟩
        show pmE pg X pg_tyl pg_cl (d + 3) 261 88 [.ref 147, .int x1, .int x2, .int x3, .int x4, .int x5, .int x6, .int x7] [.int rq8, .int x5] (md wc f A) _
        refine pe_goto (off := 4) (t := 92) (by decide +kernel) (by decide) rfl ?_
        refine pw_or (by decide +kernel) (fun z9 => ?_)
        refine pe_istore (j := 5) (ls' := [.ref 147, .int x1, .int x2, .int x3, .int x4, .int z9, .int x6, .int x7]) (by decide +kernel) (Nat.le_of_ble_eq_true rfl) rfl ?_
        refine pz_iinc (j := 7) (n := 1) (by decide +kernel) rfl rfl (by decide +kernel) (by omega) (by omega) (fun z10 hz10 => ?_)
        show pmE pg X pg_tyl pg_cl (d + 3) 261 98 [.ref 147, .int x1, .int x2, .int x3, .int x4, .int z9, .int x6, .int z10] [] (md wc f A) _
        refine pe_goto (off := (-41)) (t := 57) (by decide +kernel) (by decide) rfl ?_
        exact ih z9 z10 (by omega) (by omega)
set_option maxRecDepth 100000 in
set_option maxHeartbeats 8000000 in
theorem ML_261_47 {X : pm_X} {d : Nat} {wc : pm_W} {Q : pm_R → Prop} {f : Nat → Int32} {A : Nat → List Int32} {x1 x2 x3 x4 : Int32} (hc : wc.length = 147) (hI : MI f A) (gx1 : (610 ≤ x1.toInt ∧ x1.toInt ≤ 742 ∧ (x1.toInt - 610) % 132 = 0)) (gx4 : (0 ≤ x4.toInt ∧ x4.toInt ≤ 8)) (k_107_0 : ∀ (y5 : Int32) (y6 : Int32) (v7 : Value), (9 ≤ y6.toInt ∧ y6.toInt ≤ 9) → pmE pg X pg_tyl pg_cl (d + 3) 261 107 [.ref 147, .int x1, .int x2, .int x3, .int x4, .int y5, .int y6, v7] [] (md wc f A) Q) : ∀ (m : Nat) (x5 : Int32) (x6 : Int32) (u7 : Value), (0 ≤ x6.toInt ∧ x6.toInt ≤ 9) → 9 - x6.toInt < (m : Int) → pmE pg X pg_tyl pg_cl (d + 3) 261 47 [.ref 147, .int x1, .int x2, .int x3, .int x4, .int x5, .int x6, u7] [] (md wc f A) Q := by
  intro m
  induction m with
  | zero =>
    intro x5 x6 u7 gx6 hm
    exfalso
    have l0 := zi_lo x6
    have u0 := zi_hi x6
    omega
  | succ m ih =>
    intro x5 x6 u7 gx6 hm
    refine pe_iload (j := 6) (by decide +kernel) rfl ?_
    refine pe_bipushv (n := 9) (v := 9) (by decide +kernel) (by decide +kernel) ?_
    refine pz_icmp_ge (off := 56) (t := 107) (by decide +kernel) (by decide) rfl rfl kz_9 (fun h1 => ?_) (fun h1 => ?_)
    · skip
      exact k_107_0 x5 x6 (u7) (by omega)
    · skip
      refine pe_iconstv (n := 0) (v := 0) (by decide +kernel) (by decide +kernel) ?_
      refine pe_istore (j := 7) (ls' := [.ref 147, .int x1, .int x2, .int x3, .int x4, .int x5, .int x6, .int 0]) (by decide +kernel) (Nat.le_of_ble_eq_true rfl) rfl ?_
      refine ML_261_57 hc hI (by omega) (by omega) (by omega) (fun y2 y3 gy3 => ?_) 10 x5 0 (by decide +kernel) (by decide +kernel)
      refine pz_iinc (j := 6) (n := 1) (by decide +kernel) rfl rfl (by decide +kernel) (by omega) (by omega) (fun z4 hz4 => ?_)
      show pmE pg X pg_tyl pg_cl (d + 3) 261 104 [.ref 147, .int x1, .int x2, .int x3, .int x4, .int y2, .int z4, .int y3] [] (md wc f A) _
      refine pe_goto (off := (-57)) (t := 47) (by decide +kernel) (by decide) rfl ?_
      exact ih y2 z4 (.int y3) (by omega) (by omega)
set_option maxRecDepth 100000 in
set_option maxHeartbeats 8000000 in
theorem ML_261_11 {X : pm_X} {d : Nat} {wc : pm_W} {Q : pm_R → Prop} {f : Nat → Int32} {A : Nat → List Int32} {x1 : Int32} (hc : wc.length = 147) (hI : MI f A) (gx1 : (610 ≤ x1.toInt ∧ x1.toInt ≤ 742 ∧ (x1.toInt - 610) % 132 = 0)) (k_118_0 : ∀ (y2 : Int32) (y3 : Int32) (y4 : Int32) (v5 : Value) (v6 : Value) (v7 : Value), (0 ≤ y4.toInt ∧ y4.toInt ≤ 9) → pmE pg X pg_tyl pg_cl (d + 3) 261 118 [.ref 147, .int x1, .int y2, .int y3, .int y4, v5, v6, v7] [] (md wc f A) Q) : ∀ (m : Nat) (x2 : Int32) (x3 : Int32) (x4 : Int32) (u5 : Value) (u6 : Value) (u7 : Value), (0 ≤ x4.toInt ∧ x4.toInt ≤ 9) → 9 - x4.toInt < (m : Int) → pmE pg X pg_tyl pg_cl (d + 3) 261 11 [.ref 147, .int x1, .int x2, .int x3, .int x4, u5, u6, u7] [] (md wc f A) Q := by
  intro m
  induction m with
  | zero =>
    intro x2 x3 x4 u5 u6 u7 gx4 hm
    exfalso
    have l0 := zi_lo x4
    have u0 := zi_hi x4
    omega
  | succ m ih =>
    intro x2 x3 x4 u5 u6 u7 gx4 hm
    refine pe_iload (j := 4) (by decide +kernel) rfl ?_
    refine pe_aload_n (j := 0) (by decide +kernel) rfl ?_
    refine pe_get (j := 7) (ci := 12) (n := 0) (by decide +kernel) (by decide +kernel) (md_o hc) rfl ?_
    refine pe_iload_n (j := 1) (by decide +kernel) rfl ?_
    refine mz_ld148 (by decide +kernel) hc hI rfl (by omega) (by omega) (fun v1 ev1 pv1 => ?_)
    have rv1 : 0 ≤ v1.toInt ∧ v1.toInt ≤ 9 := MT_people pv1 (by omega)
    clear pv1
    refine pz_icmp_ge (off := 99) (t := 118) (by decide +kernel) (by decide) rfl rfl rfl (fun h2 => ?_) (fun h2 => ?_)
    · skip
      exact k_118_0 x2 x3 x4 (u5) (u6) (u7) (by omega)
    · skip
      refine pe_iload_n (j := 2) (by decide +kernel) rfl ?_
      refine pe_iload (j := 4) (by decide +kernel) rfl ?_
      refine pw_shr (by decide +kernel) (fun z3 => ?_)
      refine pe_iconstv (n := 1) (v := 1) (by decide +kernel) (by decide +kernel) ?_
      refine pz_and1 (by decide +kernel) (fun z4 hz4 => ?_)
      refine pe_iconstv (n := 1) (v := 1) (by decide +kernel) (by decide +kernel) ?_
      refine pz_icmp_ne (off := 6) (t := 35) (by decide +kernel) (by decide) rfl rfl kz_1 (fun h5 => ?_) (fun h5 => ?_)
      · skip
        refine pw_iinc (j := 3) (n := 1) (by decide +kernel) rfl (fun z6 => ?_)
        show pmE pg X pg_tyl pg_cl (d + 3) 261 38 [.ref 147, .int x1, .int x2, .int z6, .int x4, u5, u6, u7] [] (md wc f A) _
        refine pe_iconstv (n := 1) (v := 1) (by decide +kernel) (by decide +kernel) ?_
        refine pe_iload (j := 4) (by decide +kernel) rfl ?_
        refine pz_shl1 (by decide +kernel) rfl (by omega) (by omega) (fun z7 hz7 => ?_)
        refine pe_istore (j := 5) (ls' := [.ref 147, .int x1, .int x2, .int z6, .int x4, .int z7, u6, u7]) (by decide +kernel) (Nat.le_of_ble_eq_true rfl) rfl ?_
        refine pe_iconstv (n := 0) (v := 0) (by decide +kernel) (by decide +kernel) ?_
        refine pe_istore (j := 6) (ls' := [.ref 147, .int x1, .int x2, .int z6, .int x4, .int z7, .int 0, u7]) (by decide +kernel) (Nat.le_of_ble_eq_true rfl) rfl ?_
        refine ML_261_47 hc hI (by omega) (by omega) (fun y8 y9 u10 gy9 => ?_) 10 z7 0 (u7) (by decide +kernel) (by decide +kernel)
        refine pe_iload_n (j := 2) (by decide +kernel) rfl ?_
        refine pe_iload (j := 5) (by decide +kernel) rfl ?_
        refine pw_or (by decide +kernel) (fun z11 => ?_)
        refine pe_istore_n (j := 2) (ls' := [.ref 147, .int x1, .int z11, .int z6, .int x4, .int y8, .int y9, u10]) (by decide +kernel) (Nat.le_of_ble_eq_true rfl) rfl ?_
        refine pz_iinc (j := 4) (n := 1) (by decide +kernel) rfl rfl (by decide +kernel) (by omega) (by omega) (fun z12 hz12 => ?_)
        show pmE pg X pg_tyl pg_cl (d + 3) 261 115 [.ref 147, .int x1, .int z11, .int z6, .int z12, .int y8, .int y9, u10] [] (md wc f A) _
        refine pe_goto (off := (-104)) (t := 11) (by decide +kernel) (by decide) rfl ?_
        exact ih z11 z6 z12 (.int y8) (.int y9) (u10) (by omega) (by omega)
      · skip
        refine pe_goto (off := 80) (t := 112) (by decide +kernel) (by decide) rfl ?_
        refine pz_iinc (j := 4) (n := 1) (by decide +kernel) rfl rfl (by decide +kernel) (by omega) (by omega) (fun z13 hz13 => ?_)
        show pmE pg X pg_tyl pg_cl (d + 3) 261 115 [.ref 147, .int x1, .int x2, .int x3, .int z13, u5, u6, u7] [] (md wc f A) _
        refine pe_goto (off := (-104)) (t := 11) (by decide +kernel) (by decide) rfl ?_
        exact ih x2 x3 z13 (u5) (u6) (u7) (by omega) (by omega)
set_option maxRecDepth 100000 in
set_option maxHeartbeats 8000000 in
theorem MM_261 {X : pm_X} {d : Nat} {wc : pm_W} {f : Nat → Int32} {A : Nat → List Int32} {x1 : Int32} (hc : wc.length = 147) (hI : MI f A) (gx1 : (610 ≤ x1.toInt ∧ x1.toInt ≤ 742 ∧ (x1.toInt - 610) % 132 = 0)) : pmE pg X pg_tyl pg_cl (d + 3) 261 0 (pm_ent (pm_max pg 261) [.ref 147, .int x1]) [] (md wc f A) (fun q => ∃ (r : Int32), q = (some (.int r), md wc f A, 0, 0) ∧ ((True ∧ True))) := by
  show pmE pg X pg_tyl pg_cl (d + 3) 261 0 [.ref 147, .int x1, pm_dead, pm_dead, pm_dead, pm_dead, pm_dead, pm_dead] [] (md wc f A) _
  refine pe_aload_n (j := 0) (by decide +kernel) rfl ?_
  refine pe_iload_n (j := 1) (by decide +kernel) rfl ?_
  refine pz_callV (j := 254) (mj := 259) (by decide +kernel) (cll_V (args := [.int x1]) (n := 1) (by decide +kernel) rfl rfl (md_o hc) (by decide +kernel) (Nat.le_of_ble_eq_true rfl) (Nat.le_of_ble_eq_true rfl)) (MM_259 hc hI (by omega)) (fun q1a q1b q1c q1d hqq1 => ?_)
  obtain ⟨rq1, eq1, kq1⟩ := hqq1
  cases eq1
  refine ⟨rfl, rfl, ?_⟩
  show pmE pg X pg_tyl pg_cl (d + 3) 261 5 [.ref 147, .int x1, pm_dead, pm_dead, pm_dead, pm_dead, pm_dead, pm_dead] [.int rq1] (md wc f A) _
  refine pe_istore_n (j := 2) (ls' := [.ref 147, .int x1, .int rq1, pm_dead, pm_dead, pm_dead, pm_dead, pm_dead]) (by decide +kernel) (Nat.le_of_ble_eq_true rfl) rfl ?_
  refine pe_iconstv (n := 0) (v := 0) (by decide +kernel) (by decide +kernel) ?_
  refine pe_istore_n (j := 3) (ls' := [.ref 147, .int x1, .int rq1, .int 0, pm_dead, pm_dead, pm_dead, pm_dead]) (by decide +kernel) (Nat.le_of_ble_eq_true rfl) rfl ?_
  refine pe_iconstv (n := 0) (v := 0) (by decide +kernel) (by decide +kernel) ?_
  refine pe_istore (j := 4) (ls' := [.ref 147, .int x1, .int rq1, .int 0, .int 0, pm_dead, pm_dead, pm_dead]) (by decide +kernel) (Nat.le_of_ble_eq_true rfl) rfl ?_
  refine ML_261_11 hc hI (by omega) (fun y2 y3 y4 u5 u6 u7 gy4 => ?_) 10 rq1 0 0 (pm_dead) (pm_dead) (pm_dead) (by decide +kernel) (by decide +kernel)
  refine pe_iload_n (j := 3) (by decide +kernel) rfl ?_
  exact pe_iret (by decide +kernel) rfl rfl ⟨y3, rfl, ⟨trivial, trivial⟩⟩
set_option maxRecDepth 100000 in
set_option maxHeartbeats 8000000 in
theorem ML_262_147 {X : pm_X} {d : Nat} {wc : pm_W} {Q : pm_R → Prop} {f : Nat → Int32} {A0 : Nat → List Int32} {x1 x2 x3 x4 x5 : Int32} (hc : wc.length = 147) (gx1 : (610 ≤ x1.toInt ∧ x1.toInt ≤ 742 ∧ (x1.toInt - 610) % 132 = 0)) (gx2 : (0 ≤ x2.toInt)) (gx3 : (x3.toInt ≤ 1000000)) (gx4 : (0 ≤ x4.toInt ∧ x4.toInt ≤ 8)) (k_175_0 : ∀ (A' : Nat → List Int32) (y6 : Int32), MI f A' → (∀ k : Nat, k ≠ 153 → A' k = A0 k) → (400 ≤ y6.toInt ∧ y6.toInt ≤ 400) → pmE pg X pg_tyl pg_cl (d + 4) 262 175 [.ref 147, .int x1, .int x2, .int x3, .int x4, .int x5, .int y6] [] (md wc f A') Q) : ∀ (m : Nat) (A : Nat → List Int32) (x6 : Int32), MI f A → (∀ k : Nat, k ≠ 153 → A k = A0 k) → (0 ≤ x6.toInt ∧ x6.toInt ≤ 400) → 400 - x6.toInt < (m : Int) → pmE pg X pg_tyl pg_cl (d + 4) 262 147 [.ref 147, .int x1, .int x2, .int x3, .int x4, .int x5, .int x6] [] (md wc f A) Q := by
  intro m
  induction m with
  | zero =>
    intro A x6 hI hF gx6 hm
    exfalso
    have l0 := zi_lo x6
    have u0 := zi_hi x6
    omega
  | succ m ih =>
    intro A x6 hI hF gx6 hm
    refine pe_iload (j := 6) (by decide +kernel) rfl ?_
    refine pe_sipushv (n := 400) (v := 400) (by decide +kernel) (by decide +kernel) ?_
    refine pz_icmp_ge (off := 23) (t := 175) (by decide +kernel) (by decide) rfl rfl kz_400 (fun h1 => ?_) (fun h1 => ?_)
    · skip
      exact k_175_0 A x6 hI (fun k n153 => (hF k n153)) (by omega)
    · skip
      refine pe_aload_n (j := 0) (by decide +kernel) rfl ?_
      refine pe_get (j := 26) (ci := 12) (n := 13) (by decide +kernel) (by decide +kernel) (md_o hc) rfl ?_
      refine pe_iload (j := 6) (by decide +kernel) rfl ?_
      refine pe_aload_n (j := 0) (by decide +kernel) rfl ?_
      refine pe_get (j := 38) (ci := 12) (n := 20) (by decide +kernel) (by decide +kernel) (md_o hc) rfl ?_
      refine pe_iload (j := 6) (by decide +kernel) rfl ?_
      refine mz_ld157 (by decide +kernel) hc hI rfl (by omega) (by omega) (fun v2 ev2 pv2 => ?_)
      rw [show A 157 = A0 157 from (hF 157 (by decide))] at ev2
      refine mz_st153 (by decide +kernel) hc hI rfl (by omega) (by omega) pv2 (fun A3 eA3 hIA3 => ?_)
      refine pz_iinc (j := 6) (n := 1) (by decide +kernel) rfl rfl (by decide +kernel) (by omega) (by omega) (fun z4 hz4 => ?_)
      show pmE pg X pg_tyl pg_cl (d + 4) 262 172 [.ref 147, .int x1, .int x2, .int x3, .int x4, .int x5, .int z4] [] (md wc f A3) _
      refine pe_goto (off := (-25)) (t := 147) (by decide +kernel) (by decide) rfl ?_
      exact ih A3 z4 hIA3 (fun k n153 => (upa_fr eA3 n153).trans ((hF k n153))) (by omega) (by omega)
set_option maxRecDepth 100000 in
set_option maxHeartbeats 8000000 in
theorem ML_262_117 {X : pm_X} {d : Nat} {wc : pm_W} {Q : pm_R → Prop} {f : Nat → Int32} {A0 : Nat → List Int32} {x1 x2 x3 x4 x5 : Int32} (hc : wc.length = 147) (gx1 : (610 ≤ x1.toInt ∧ x1.toInt ≤ 742 ∧ (x1.toInt - 610) % 132 = 0)) (gx2 : (0 ≤ x2.toInt)) (gx3 : (x3.toInt ≤ 1000000)) (gx4 : (0 ≤ x4.toInt ∧ x4.toInt ≤ 8)) (k_144_0 : ∀ (A' : Nat → List Int32) (y6 : Int32), MI f A' → (∀ k : Nat, k ≠ 152 → A' k = A0 k) → (81 ≤ y6.toInt ∧ y6.toInt ≤ 81) → pmE pg X pg_tyl pg_cl (d + 4) 262 144 [.ref 147, .int x1, .int x2, .int x3, .int x4, .int x5, .int y6] [] (md wc f A') Q) : ∀ (m : Nat) (A : Nat → List Int32) (x6 : Int32), MI f A → (∀ k : Nat, k ≠ 152 → A k = A0 k) → (0 ≤ x6.toInt ∧ x6.toInt ≤ 81) → 81 - x6.toInt < (m : Int) → pmE pg X pg_tyl pg_cl (d + 4) 262 117 [.ref 147, .int x1, .int x2, .int x3, .int x4, .int x5, .int x6] [] (md wc f A) Q := by
  intro m
  induction m with
  | zero =>
    intro A x6 hI hF gx6 hm
    exfalso
    have l0 := zi_lo x6
    have u0 := zi_hi x6
    omega
  | succ m ih =>
    intro A x6 hI hF gx6 hm
    refine pe_iload (j := 6) (by decide +kernel) rfl ?_
    refine pe_bipushv (n := 81) (v := 81) (by decide +kernel) (by decide +kernel) ?_
    refine pz_icmp_ge (off := 23) (t := 144) (by decide +kernel) (by decide) rfl rfl kz_81 (fun h1 => ?_) (fun h1 => ?_)
    · skip
      exact k_144_0 A x6 hI (fun k n152 => (hF k n152)) (by omega)
    · skip
      refine pe_aload_n (j := 0) (by decide +kernel) rfl ?_
      refine pe_get (j := 23) (ci := 12) (n := 12) (by decide +kernel) (by decide +kernel) (md_o hc) rfl ?_
      refine pe_iload (j := 6) (by decide +kernel) rfl ?_
      refine pe_aload_n (j := 0) (by decide +kernel) rfl ?_
      refine pe_get (j := 35) (ci := 12) (n := 19) (by decide +kernel) (by decide +kernel) (md_o hc) rfl ?_
      refine pe_iload (j := 6) (by decide +kernel) rfl ?_
      refine mz_ld156 (by decide +kernel) hc hI rfl (by omega) (by omega) (fun v2 ev2 => ?_)
      rw [show A 156 = A0 156 from (hF 156 (by decide))] at ev2
      refine mz_st152 (by decide +kernel) hc hI rfl (by omega) (by omega) (fun A3 eA3 hIA3 => ?_)
      refine pz_iinc (j := 6) (n := 1) (by decide +kernel) rfl rfl (by decide +kernel) (by omega) (by omega) (fun z4 hz4 => ?_)
      show pmE pg X pg_tyl pg_cl (d + 4) 262 141 [.ref 147, .int x1, .int x2, .int x3, .int x4, .int x5, .int z4] [] (md wc f A3) _
      refine pe_goto (off := (-24)) (t := 117) (by decide +kernel) (by decide) rfl ?_
      exact ih A3 z4 hIA3 (fun k n152 => (upa_fr eA3 n152).trans ((hF k n152))) (by omega) (by omega)
set_option maxRecDepth 100000 in
set_option maxHeartbeats 8000000 in
theorem ML_262_69 {X : pm_X} {d : Nat} {wc : pm_W} {Q : pm_R → Prop} {f : Nat → Int32} {A0 : Nat → List Int32} {x1 : Int32} (hc : wc.length = 147) (gx1 : (610 ≤ x1.toInt ∧ x1.toInt ≤ 742 ∧ (x1.toInt - 610) % 132 = 0)) (k_181_0 : ∀ (A' : Nat → List Int32) (y2 : Int32) (y3 : Int32) (y4 : Int32) (v5 : Value) (v6 : Value), MI f A' → (∀ k : Nat, k ≠ 152 → k ≠ 153 → A' k = A0 k) → (0 ≤ y2.toInt) → (y3.toInt ≤ 1000000) → (0 ≤ y4.toInt ∧ y4.toInt ≤ 9) → pmE pg X pg_tyl pg_cl (d + 4) 262 181 [.ref 147, .int x1, .int y2, .int y3, .int y4, v5, v6] [] (md wc f A') Q) : ∀ (m : Nat) (A : Nat → List Int32) (x2 : Int32) (x3 : Int32) (x4 : Int32) (u5 : Value) (u6 : Value), MI f A → (∀ k : Nat, k ≠ 152 → k ≠ 153 → A k = A0 k) → (0 ≤ x2.toInt) → (x3.toInt ≤ 1000000) → (0 ≤ x4.toInt ∧ x4.toInt ≤ 9) → 9 - x4.toInt < (m : Int) → pmE pg X pg_tyl pg_cl (d + 4) 262 69 [.ref 147, .int x1, .int x2, .int x3, .int x4, u5, u6] [] (md wc f A) Q := by
  intro m
  induction m with
  | zero =>
    intro A x2 x3 x4 u5 u6 hI hF gx2 gx3 gx4 hm
    exfalso
    have l0 := zi_lo x4
    have u0 := zi_hi x4
    omega
  | succ m ih =>
    intro A x2 x3 x4 u5 u6 hI hF gx2 gx3 gx4 hm
    refine pe_iload (j := 4) (by decide +kernel) rfl ?_
    refine pe_aload_n (j := 0) (by decide +kernel) rfl ?_
    refine pe_get (j := 7) (ci := 12) (n := 0) (by decide +kernel) (by decide +kernel) (md_o hc) rfl ?_
    refine pe_iload_n (j := 1) (by decide +kernel) rfl ?_
    refine mz_ld148 (by decide +kernel) hc hI rfl (by omega) (by omega) (fun v1 ev1 pv1 => ?_)
    rw [show A 148 = A0 148 from (hF 148 (by decide) (by decide))] at ev1
    have rv1 : 0 ≤ v1.toInt ∧ v1.toInt ≤ 9 := MT_people pv1 (by omega)
    clear pv1
    refine pz_icmp_ge (off := 104) (t := 181) (by decide +kernel) (by decide) rfl rfl rfl (fun h2 => ?_) (fun h2 => ?_)
    · skip
      exact k_181_0 A x2 x3 x4 (u5) (u6) hI (fun k n152 n153 => (hF k n152 n153)) (by omega) (by omega) (by omega)
    · skip
      refine pe_aload_n (j := 0) (by decide +kernel) rfl ?_
      refine pe_iload (j := 4) (by decide +kernel) rfl ?_
      refine pz_callV (j := 205) (mj := 238) (by decide +kernel) (cll_V (args := [.int x4]) (n := 1) (by decide +kernel) rfl rfl (md_o hc) (by decide +kernel) (Nat.le_of_ble_eq_true rfl) (Nat.le_of_ble_eq_true rfl)) (MM_238 hc hI (by omega)) (fun q3a q3b q3c q3d hqq3 => ?_)
      obtain ⟨A4, eq3, hIq3, hFq3, kq3⟩ := hqq3
      cases eq3
      refine ⟨rfl, rfl, ?_⟩
      show pmE pg X pg_tyl pg_cl (d + 4) 262 86 [.ref 147, .int x1, .int x2, .int x3, .int x4, u5, u6] [] (md wc f A4) _
      refine pe_aload_n (j := 0) (by decide +kernel) rfl ?_
      refine pz_callV (j := 244) (mj := 252) (by decide +kernel) (cll_V (args := []) (n := 0) (by decide +kernel) rfl rfl (md_o hc) (by decide +kernel) (Nat.le_of_ble_eq_true rfl) (Nat.le_of_ble_eq_true rfl)) (MM_252 hc hIq3) (fun q5a q5b q5c q5d hqq5 => ?_)
      obtain ⟨rq5, eq5, kq5⟩ := hqq5
      cases eq5
      refine ⟨rfl, rfl, ?_⟩
      show pmE pg X pg_tyl pg_cl (d + 4) 262 90 [.ref 147, .int x1, .int x2, .int x3, .int x4, u5, u6] [.int rq5] (md wc f A4) _
      refine pe_istore (j := 5) (ls' := [.ref 147, .int x1, .int x2, .int x3, .int x4, .int rq5, u6]) (by decide +kernel) (Nat.le_of_ble_eq_true rfl) rfl ?_
      refine pe_iload (j := 5) (by decide +kernel) rfl ?_
      refine pe_iload_n (j := 3) (by decide +kernel) rfl ?_
      have lw7 := zi_lo rq5
      have uw7 := zi_hi rq5
      have lw8 := zi_lo x3
      have uw8 := zi_hi x3
      refine pz_icmp_ge (off := 6) (t := 101) (by decide +kernel) (by decide) rfl rfl rfl (fun h6 => ?_) (fun h6 => ?_)
      · skip
        refine pe_iload (j := 5) (by decide +kernel) rfl ?_
        refine pe_iload_n (j := 3) (by decide +kernel) rfl ?_
        refine pz_icmp_ge (off := 8) (t := 112) (by decide +kernel) (by decide) rfl rfl rfl (fun h9 => ?_) (fun h9 => ?_)
        · skip
          refine pe_iload_n (j := 3) (by decide +kernel) rfl ?_
          refine pe_istore_n (j := 3) (ls' := [.ref 147, .int x1, .int x2, .int x3, .int x4, .int rq5, u6]) (by decide +kernel) (Nat.le_of_ble_eq_true rfl) rfl ?_
          refine pe_iconstv (n := 0) (v := 0) (by decide +kernel) (by decide +kernel) ?_
          refine pe_istore (j := 6) (ls' := [.ref 147, .int x1, .int x2, .int x3, .int x4, .int rq5, .int 0]) (by decide +kernel) (Nat.le_of_ble_eq_true rfl) rfl ?_
          refine ML_262_117 hc (by omega) (by omega) (by omega) (by omega) (fun A10 y12 hIy11 hFhIy11 gy12 => ?_) 82 A4 0 hIq3 (fun k _ => rfl) (by decide +kernel) (by decide +kernel)
          refine pe_iconstv (n := 0) (v := 0) (by decide +kernel) (by decide +kernel) ?_
          refine pe_istore (j := 6) (ls' := [.ref 147, .int x1, .int x2, .int x3, .int x4, .int rq5, .int 0]) (by decide +kernel) (Nat.le_of_ble_eq_true rfl) rfl ?_
          refine ML_262_147 hc (by omega) (by omega) (by omega) (by omega) (fun A13 y15 hIy14 hFhIy14 gy15 => ?_) 401 A10 0 hIy11 (fun k _ => rfl) (by decide +kernel) (by decide +kernel)
          refine pz_iinc (j := 4) (n := 1) (by decide +kernel) rfl rfl (by decide +kernel) (by omega) (by omega) (fun z16 hz16 => ?_)
          show pmE pg X pg_tyl pg_cl (d + 4) 262 178 [.ref 147, .int x1, .int x2, .int x3, .int z16, .int rq5, .int y15] [] (md wc f A13) _
          refine pe_goto (off := (-109)) (t := 69) (by decide +kernel) (by decide) rfl ?_
          exact ih A13 x2 x3 z16 (.int rq5) (.int y15) hIy14 (fun k n152 n153 => ((hFhIy14 k n153)).trans (((hFhIy11 k n152)).trans (((hFq3 k n152 n153)).trans ((hF k n152 n153))))) (by omega) (by omega) (by omega) (by omega)
        · skip
          refine pe_iload (j := 5) (by decide +kernel) rfl ?_
          refine pe_goto (off := 4) (t := 113) (by decide +kernel) (by decide) rfl ?_
          refine pe_istore_n (j := 3) (ls' := [.ref 147, .int x1, .int x2, .int rq5, .int x4, .int rq5, u6]) (by decide +kernel) (Nat.le_of_ble_eq_true rfl) rfl ?_
          refine pe_iconstv (n := 0) (v := 0) (by decide +kernel) (by decide +kernel) ?_
          refine pe_istore (j := 6) (ls' := [.ref 147, .int x1, .int x2, .int rq5, .int x4, .int rq5, .int 0]) (by decide +kernel) (Nat.le_of_ble_eq_true rfl) rfl ?_
          refine ML_262_117 hc (by omega) (by omega) (by omega) (by omega) (fun A17 y19 hIy18 hFhIy18 gy19 => ?_) 82 A4 0 hIq3 (fun k _ => rfl) (by decide +kernel) (by decide +kernel)
          refine pe_iconstv (n := 0) (v := 0) (by decide +kernel) (by decide +kernel) ?_
          refine pe_istore (j := 6) (ls' := [.ref 147, .int x1, .int x2, .int rq5, .int x4, .int rq5, .int 0]) (by decide +kernel) (Nat.le_of_ble_eq_true rfl) rfl ?_
          refine ML_262_147 hc (by omega) (by omega) (by omega) (by omega) (fun A20 y22 hIy21 hFhIy21 gy22 => ?_) 401 A17 0 hIy18 (fun k _ => rfl) (by decide +kernel) (by decide +kernel)
          refine pz_iinc (j := 4) (n := 1) (by decide +kernel) rfl rfl (by decide +kernel) (by omega) (by omega) (fun z23 hz23 => ?_)
          show pmE pg X pg_tyl pg_cl (d + 4) 262 178 [.ref 147, .int x1, .int x2, .int rq5, .int z23, .int rq5, .int y22] [] (md wc f A20) _
          refine pe_goto (off := (-109)) (t := 69) (by decide +kernel) (by decide) rfl ?_
          exact ih A20 x2 rq5 z23 (.int rq5) (.int y22) hIy21 (fun k n152 n153 => ((hFhIy21 k n153)).trans (((hFhIy18 k n152)).trans (((hFq3 k n152 n153)).trans ((hF k n152 n153))))) (by omega) (by omega) (by omega) (by omega)
      · skip
        refine pe_iload (j := 4) (by decide +kernel) rfl ?_
        refine pe_istore_n (j := 2) (ls' := [.ref 147, .int x1, .int x4, .int x3, .int x4, .int rq5, u6]) (by decide +kernel) (Nat.le_of_ble_eq_true rfl) rfl ?_
        refine pe_iload (j := 5) (by decide +kernel) rfl ?_
        refine pe_iload_n (j := 3) (by decide +kernel) rfl ?_
        refine pz_icmp_ge (off := 8) (t := 112) (by decide +kernel) (by decide) rfl rfl rfl (fun h24 => ?_) (fun h24 => ?_)
        · skip
          refine pe_iload_n (j := 3) (by decide +kernel) rfl ?_
          refine pe_istore_n (j := 3) (ls' := [.ref 147, .int x1, .int x4, .int x3, .int x4, .int rq5, u6]) (by decide +kernel) (Nat.le_of_ble_eq_true rfl) rfl ?_
          refine pe_iconstv (n := 0) (v := 0) (by decide +kernel) (by decide +kernel) ?_
          refine pe_istore (j := 6) (ls' := [.ref 147, .int x1, .int x4, .int x3, .int x4, .int rq5, .int 0]) (by decide +kernel) (Nat.le_of_ble_eq_true rfl) rfl ?_
          refine ML_262_117 hc (by omega) (by omega) (by omega) (by omega) (fun A25 y27 hIy26 hFhIy26 gy27 => ?_) 82 A4 0 hIq3 (fun k _ => rfl) (by decide +kernel) (by decide +kernel)
          refine pe_iconstv (n := 0) (v := 0) (by decide +kernel) (by decide +kernel) ?_
          refine pe_istore (j := 6) (ls' := [.ref 147, .int x1, .int x4, .int x3, .int x4, .int rq5, .int 0]) (by decide +kernel) (Nat.le_of_ble_eq_true rfl) rfl ?_
          refine ML_262_147 hc (by omega) (by omega) (by omega) (by omega) (fun A28 y30 hIy29 hFhIy29 gy30 => ?_) 401 A25 0 hIy26 (fun k _ => rfl) (by decide +kernel) (by decide +kernel)
          refine pz_iinc (j := 4) (n := 1) (by decide +kernel) rfl rfl (by decide +kernel) (by omega) (by omega) (fun z31 hz31 => ?_)
          show pmE pg X pg_tyl pg_cl (d + 4) 262 178 [.ref 147, .int x1, .int x4, .int x3, .int z31, .int rq5, .int y30] [] (md wc f A28) _
          refine pe_goto (off := (-109)) (t := 69) (by decide +kernel) (by decide) rfl ?_
          exact ih A28 x4 x3 z31 (.int rq5) (.int y30) hIy29 (fun k n152 n153 => ((hFhIy29 k n153)).trans (((hFhIy26 k n152)).trans (((hFq3 k n152 n153)).trans ((hF k n152 n153))))) (by omega) (by omega) (by omega) (by omega)
        · skip
          refine pe_iload (j := 5) (by decide +kernel) rfl ?_
          refine pe_goto (off := 4) (t := 113) (by decide +kernel) (by decide) rfl ?_
          refine pe_istore_n (j := 3) (ls' := [.ref 147, .int x1, .int x4, .int rq5, .int x4, .int rq5, u6]) (by decide +kernel) (Nat.le_of_ble_eq_true rfl) rfl ?_
          refine pe_iconstv (n := 0) (v := 0) (by decide +kernel) (by decide +kernel) ?_
          refine pe_istore (j := 6) (ls' := [.ref 147, .int x1, .int x4, .int rq5, .int x4, .int rq5, .int 0]) (by decide +kernel) (Nat.le_of_ble_eq_true rfl) rfl ?_
          refine ML_262_117 hc (by omega) (by omega) (by omega) (by omega) (fun A32 y34 hIy33 hFhIy33 gy34 => ?_) 82 A4 0 hIq3 (fun k _ => rfl) (by decide +kernel) (by decide +kernel)
          refine pe_iconstv (n := 0) (v := 0) (by decide +kernel) (by decide +kernel) ?_
          refine pe_istore (j := 6) (ls' := [.ref 147, .int x1, .int x4, .int rq5, .int x4, .int rq5, .int 0]) (by decide +kernel) (Nat.le_of_ble_eq_true rfl) rfl ?_
          refine ML_262_147 hc (by omega) (by omega) (by omega) (by omega) (fun A35 y37 hIy36 hFhIy36 gy37 => ?_) 401 A32 0 hIy33 (fun k _ => rfl) (by decide +kernel) (by decide +kernel)
          refine pz_iinc (j := 4) (n := 1) (by decide +kernel) rfl rfl (by decide +kernel) (by omega) (by omega) (fun z38 hz38 => ?_)
          show pmE pg X pg_tyl pg_cl (d + 4) 262 178 [.ref 147, .int x1, .int x4, .int rq5, .int z38, .int rq5, .int y37] [] (md wc f A35) _
          refine pe_goto (off := (-109)) (t := 69) (by decide +kernel) (by decide) rfl ?_
          exact ih A35 x4 rq5 z38 (.int rq5) (.int y37) hIy36 (fun k n152 n153 => ((hFhIy36 k n153)).trans (((hFhIy33 k n152)).trans (((hFq3 k n152 n153)).trans ((hF k n152 n153))))) (by omega) (by omega) (by omega) (by omega)
set_option maxRecDepth 100000 in
set_option maxHeartbeats 8000000 in
theorem ML_262_38 {X : pm_X} {d : Nat} {wc : pm_W} {Q : pm_R → Prop} {f : Nat → Int32} {A0 : Nat → List Int32} {x1 x2 x3 : Int32} (hc : wc.length = 147) (gx1 : (610 ≤ x1.toInt ∧ x1.toInt ≤ 742 ∧ (x1.toInt - 610) % 132 = 0)) (gx2 : (0 ≤ x2.toInt ∧ x2.toInt ≤ 0)) (gx3 : (1000000 ≤ x3.toInt ∧ x3.toInt ≤ 1000000)) (k_66_0 : ∀ (A' : Nat → List Int32) (y4 : Int32), MI f A' → (∀ k : Nat, k ≠ 157 → A' k = A0 k) → (400 ≤ y4.toInt ∧ y4.toInt ≤ 400) → pmE pg X pg_tyl pg_cl (d + 4) 262 66 [.ref 147, .int x1, .int x2, .int x3, .int y4, pm_dead, pm_dead] [] (md wc f A') Q) : ∀ (m : Nat) (A : Nat → List Int32) (x4 : Int32), MI f A → (∀ k : Nat, k ≠ 157 → A k = A0 k) → (0 ≤ x4.toInt ∧ x4.toInt ≤ 400) → 400 - x4.toInt < (m : Int) → pmE pg X pg_tyl pg_cl (d + 4) 262 38 [.ref 147, .int x1, .int x2, .int x3, .int x4, pm_dead, pm_dead] [] (md wc f A) Q := by
  intro m
  induction m with
  | zero =>
    intro A x4 hI hF gx4 hm
    exfalso
    have l0 := zi_lo x4
    have u0 := zi_hi x4
    omega
  | succ m ih =>
    intro A x4 hI hF gx4 hm
    refine pe_iload (j := 4) (by decide +kernel) rfl ?_
    refine pe_sipushv (n := 400) (v := 400) (by decide +kernel) (by decide +kernel) ?_
    refine pz_icmp_ge (off := 23) (t := 66) (by decide +kernel) (by decide) rfl rfl kz_400 (fun h1 => ?_) (fun h1 => ?_)
    · skip
      exact k_66_0 A x4 hI (fun k n157 => (hF k n157)) (by omega)
    · skip
      refine pe_aload_n (j := 0) (by decide +kernel) rfl ?_
      refine pe_get (j := 38) (ci := 12) (n := 20) (by decide +kernel) (by decide +kernel) (md_o hc) rfl ?_
      refine pe_iload (j := 4) (by decide +kernel) rfl ?_
      refine pe_aload_n (j := 0) (by decide +kernel) rfl ?_
      refine pe_get (j := 26) (ci := 12) (n := 13) (by decide +kernel) (by decide +kernel) (md_o hc) rfl ?_
      refine pe_iload (j := 4) (by decide +kernel) rfl ?_
      refine mz_ld153 (by decide +kernel) hc hI rfl (by omega) (by omega) (fun v2 ev2 pv2 => ?_)
      rw [show A 153 = A0 153 from (hF 153 (by decide))] at ev2
      refine mz_st157 (by decide +kernel) hc hI rfl (by omega) (by omega) pv2 (fun A3 eA3 hIA3 => ?_)
      refine pz_iinc (j := 4) (n := 1) (by decide +kernel) rfl rfl (by decide +kernel) (by omega) (by omega) (fun z4 hz4 => ?_)
      show pmE pg X pg_tyl pg_cl (d + 4) 262 63 [.ref 147, .int x1, .int x2, .int x3, .int z4, pm_dead, pm_dead] [] (md wc f A3) _
      refine pe_goto (off := (-25)) (t := 38) (by decide +kernel) (by decide) rfl ?_
      exact ih A3 z4 hIA3 (fun k n157 => (upa_fr eA3 n157).trans ((hF k n157))) (by omega) (by omega)
set_option maxRecDepth 100000 in
set_option maxHeartbeats 8000000 in
theorem ML_262_8 {X : pm_X} {d : Nat} {wc : pm_W} {Q : pm_R → Prop} {f : Nat → Int32} {A0 : Nat → List Int32} {x1 x2 x3 : Int32} (hc : wc.length = 147) (gx1 : (610 ≤ x1.toInt ∧ x1.toInt ≤ 742 ∧ (x1.toInt - 610) % 132 = 0)) (gx2 : (0 ≤ x2.toInt ∧ x2.toInt ≤ 0)) (gx3 : (1000000 ≤ x3.toInt ∧ x3.toInt ≤ 1000000)) (k_35_0 : ∀ (A' : Nat → List Int32) (y4 : Int32), MI f A' → (∀ k : Nat, k ≠ 156 → A' k = A0 k) → (81 ≤ y4.toInt ∧ y4.toInt ≤ 81) → pmE pg X pg_tyl pg_cl (d + 4) 262 35 [.ref 147, .int x1, .int x2, .int x3, .int y4, pm_dead, pm_dead] [] (md wc f A') Q) : ∀ (m : Nat) (A : Nat → List Int32) (x4 : Int32), MI f A → (∀ k : Nat, k ≠ 156 → A k = A0 k) → (0 ≤ x4.toInt ∧ x4.toInt ≤ 81) → 81 - x4.toInt < (m : Int) → pmE pg X pg_tyl pg_cl (d + 4) 262 8 [.ref 147, .int x1, .int x2, .int x3, .int x4, pm_dead, pm_dead] [] (md wc f A) Q := by
  intro m
  induction m with
  | zero =>
    intro A x4 hI hF gx4 hm
    exfalso
    have l0 := zi_lo x4
    have u0 := zi_hi x4
    omega
  | succ m ih =>
    intro A x4 hI hF gx4 hm
    refine pe_iload (j := 4) (by decide +kernel) rfl ?_
    refine pe_bipushv (n := 81) (v := 81) (by decide +kernel) (by decide +kernel) ?_
    refine pz_icmp_ge (off := 23) (t := 35) (by decide +kernel) (by decide) rfl rfl kz_81 (fun h1 => ?_) (fun h1 => ?_)
    · skip
      exact k_35_0 A x4 hI (fun k n156 => (hF k n156)) (by omega)
    · skip
      refine pe_aload_n (j := 0) (by decide +kernel) rfl ?_
      refine pe_get (j := 35) (ci := 12) (n := 19) (by decide +kernel) (by decide +kernel) (md_o hc) rfl ?_
      refine pe_iload (j := 4) (by decide +kernel) rfl ?_
      refine pe_aload_n (j := 0) (by decide +kernel) rfl ?_
      refine pe_get (j := 23) (ci := 12) (n := 12) (by decide +kernel) (by decide +kernel) (md_o hc) rfl ?_
      refine pe_iload (j := 4) (by decide +kernel) rfl ?_
      refine mz_ld152 (by decide +kernel) hc hI rfl (by omega) (by omega) (fun v2 ev2 => ?_)
      rw [show A 152 = A0 152 from (hF 152 (by decide))] at ev2
      refine mz_st156 (by decide +kernel) hc hI rfl (by omega) (by omega) (fun A3 eA3 hIA3 => ?_)
      refine pz_iinc (j := 4) (n := 1) (by decide +kernel) rfl rfl (by decide +kernel) (by omega) (by omega) (fun z4 hz4 => ?_)
      show pmE pg X pg_tyl pg_cl (d + 4) 262 32 [.ref 147, .int x1, .int x2, .int x3, .int z4, pm_dead, pm_dead] [] (md wc f A3) _
      refine pe_goto (off := (-24)) (t := 8) (by decide +kernel) (by decide) rfl ?_
      exact ih A3 z4 hIA3 (fun k n156 => (upa_fr eA3 n156).trans ((hF k n156))) (by omega) (by omega)
set_option maxRecDepth 100000 in
set_option maxHeartbeats 8000000 in
theorem MM_262 {X : pm_X} {d : Nat} {wc : pm_W} {f : Nat → Int32} {A : Nat → List Int32} {x1 : Int32} (hc : wc.length = 147) (hI : MI f A) (gx1 : (610 ≤ x1.toInt ∧ x1.toInt ≤ 742 ∧ (x1.toInt - 610) % 132 = 0)) : pmE pg X pg_tyl pg_cl (d + 4) 262 0 (pm_ent (pm_max pg 262) [.ref 147, .int x1]) [] (md wc f A) (fun q => ∃ (A' : Nat → List Int32) (r : Int32), q = (some (.int r), md wc f A', 0, 0) ∧ MI f A' ∧ (∀ k : Nat, k ≠ 152 → k ≠ 153 → k ≠ 156 → k ≠ 157 → A' k = A k) ∧ (((0 ≤ r.toInt) ∧ True))) := by
  show pmE pg X pg_tyl pg_cl (d + 4) 262 0 [.ref 147, .int x1, pm_dead, pm_dead, pm_dead, pm_dead, pm_dead] [] (md wc f A) _
  refine pe_iconstv (n := 0) (v := 0) (by decide +kernel) (by decide +kernel) ?_
  refine pe_istore_n (j := 2) (ls' := [.ref 147, .int x1, .int 0, pm_dead, pm_dead, pm_dead, pm_dead]) (by decide +kernel) (Nat.le_of_ble_eq_true rfl) rfl ?_
  refine pe_ldc (j := 243) (v := 1000000) (by decide +kernel) (by decide +kernel) ?_
  refine pe_istore_n (j := 3) (ls' := [.ref 147, .int x1, .int 0, .int 1000000, pm_dead, pm_dead, pm_dead]) (by decide +kernel) (Nat.le_of_ble_eq_true rfl) rfl ?_
  refine pe_iconstv (n := 0) (v := 0) (by decide +kernel) (by decide +kernel) ?_
  refine pe_istore (j := 4) (ls' := [.ref 147, .int x1, .int 0, .int 1000000, .int 0, pm_dead, pm_dead]) (by decide +kernel) (Nat.le_of_ble_eq_true rfl) rfl ?_
  refine ML_262_8 hc (by omega) (by decide +kernel) (by decide +kernel) (fun A1 y3 hIy2 hFhIy2 gy3 => ?_) 82 A 0 hI (fun k _ => rfl) (by decide +kernel) (by decide +kernel)
  refine pe_iconstv (n := 0) (v := 0) (by decide +kernel) (by decide +kernel) ?_
  refine pe_istore (j := 4) (ls' := [.ref 147, .int x1, .int 0, .int 1000000, .int 0, pm_dead, pm_dead]) (by decide +kernel) (Nat.le_of_ble_eq_true rfl) rfl ?_
  refine ML_262_38 hc (by omega) (by decide +kernel) (by decide +kernel) (fun A4 y6 hIy5 hFhIy5 gy6 => ?_) 401 A1 0 hIy2 (fun k _ => rfl) (by decide +kernel) (by decide +kernel)
  refine pe_iconstv (n := 0) (v := 0) (by decide +kernel) (by decide +kernel) ?_
  refine pe_istore (j := 4) (ls' := [.ref 147, .int x1, .int 0, .int 1000000, .int 0, pm_dead, pm_dead]) (by decide +kernel) (Nat.le_of_ble_eq_true rfl) rfl ?_
  refine ML_262_69 hc (by omega) (fun A7 y9 y10 y11 u12 u13 hIy8 hFhIy8 gy9 gy10 gy11 => ?_) 10 A4 0 1000000 0 (pm_dead) (pm_dead) hIy5 (fun k _ _ => rfl) (by decide +kernel) (by decide +kernel) (by decide +kernel) (by decide +kernel)
  refine pe_iload_n (j := 2) (by decide +kernel) rfl ?_
  exact pe_iret (by decide +kernel) rfl rfl ⟨A7, y9, rfl, hIy8, (fun k n152 n153 n156 n157 => ((hFhIy8 k n152 n153)).trans (((hFhIy5 k n157)).trans ((hFhIy2 k n156)))), ⟨(by omega), trivial⟩⟩
set_option maxRecDepth 100000 in
set_option maxHeartbeats 8000000 in
theorem ML_267_4 {X : pm_X} {d : Nat} {wc : pm_W} {Q : pm_R → Prop} {f : Nat → Int32} {A : Nat → List Int32} {x0 : Int32} (hc : wc.length = 147) (hI : MI f A) (gx0 : (0 ≤ x0.toInt ∧ x0.toInt ≤ 5)) (k_20_0 : ∀ (y1 : Int32) (y2 : Int32), (0 ≤ y2.toInt ∧ y2.toInt ≤ 5) → x0.toInt ≤ y2.toInt → pmE pg X pg_tyl pg_cl (d) 267 20 [.int x0, .int y1, .int y2] [] (md wc f A) Q) : ∀ (m : Nat) (x1 : Int32) (x2 : Int32), (0 ≤ x2.toInt ∧ x2.toInt ≤ 5) → 5 - x2.toInt < (m : Int) → pmE pg X pg_tyl pg_cl (d) 267 4 [.int x0, .int x1, .int x2] [] (md wc f A) Q := by
  intro m
  induction m with
  | zero =>
    intro x1 x2 gx2 hm
    exfalso
    have l0 := zi_lo x2
    have u0 := zi_hi x2
    omega
  | succ m ih =>
    intro x1 x2 gx2 hm
    refine pe_iload_n (j := 2) (by decide +kernel) rfl ?_
    refine pe_iload_n (j := 0) (by decide +kernel) rfl ?_
    refine pz_icmp_ge (off := 14) (t := 20) (by decide +kernel) (by decide) rfl rfl rfl (fun h1 => ?_) (fun h1 => ?_)
    · skip
      exact k_20_0 x1 x2 (by omega) (by omega)
    · skip
      refine pe_iload_n (j := 1) (by decide +kernel) rfl ?_
      refine pe_bipushv (n := 9) (v := 9) (by decide +kernel) (by decide +kernel) ?_
      refine pw_mul (by decide +kernel) (fun z2 => ?_)
      refine pe_istore_n (j := 1) (ls' := [.int x0, .int z2, .int x2]) (by decide +kernel) (Nat.le_of_ble_eq_true rfl) rfl ?_
      refine pz_iinc (j := 2) (n := 1) (by decide +kernel) rfl rfl (by decide +kernel) (by omega) (by omega) (fun z3 hz3 => ?_)
      show pmE pg X pg_tyl pg_cl (d) 267 17 [.int x0, .int z2, .int z3] [] (md wc f A) _
      refine pe_goto (off := (-13)) (t := 4) (by decide +kernel) (by decide) rfl ?_
      exact ih z2 z3 (by omega) (by omega)
set_option maxRecDepth 100000 in
set_option maxHeartbeats 8000000 in
theorem MM_267 {X : pm_X} {d : Nat} {wc : pm_W} {f : Nat → Int32} {A : Nat → List Int32} {x0 : Int32} (hc : wc.length = 147) (hI : MI f A) (gx0 : (0 ≤ x0.toInt ∧ x0.toInt ≤ 5)) : pmE pg X pg_tyl pg_cl (d) 267 0 (pm_ent (pm_max pg 267) [.int x0]) [] (md wc f A) (fun q => ∃ (r : Int32), q = (some (.int r), md wc f A, 0, 0) ∧ ((True ∧ True))) := by
  show pmE pg X pg_tyl pg_cl (d) 267 0 [.int x0, pm_dead, pm_dead] [] (md wc f A) _
  refine pe_iconstv (n := 1) (v := 1) (by decide +kernel) (by decide +kernel) ?_
  refine pe_istore_n (j := 1) (ls' := [.int x0, .int 1, pm_dead]) (by decide +kernel) (Nat.le_of_ble_eq_true rfl) rfl ?_
  refine pe_iconstv (n := 0) (v := 0) (by decide +kernel) (by decide +kernel) ?_
  refine pe_istore_n (j := 2) (ls' := [.int x0, .int 1, .int 0]) (by decide +kernel) (Nat.le_of_ble_eq_true rfl) rfl ?_
  refine ML_267_4 hc hI (by omega) (fun y1 y2 gy2 hr3 => ?_) 6 1 0 (by decide +kernel) (by decide +kernel)
  refine pe_iload_n (j := 1) (by decide +kernel) rfl ?_
  exact pe_iret (by decide +kernel) rfl rfl ⟨y1, rfl, ⟨trivial, trivial⟩⟩
end
section
set_option maxRecDepth 100000 in
set_option maxHeartbeats 8000000 in
theorem ML_270_6 {X : pm_X} {d : Nat} {wc : pm_W} {Q : pm_R → Prop} {f : Nat → Int32} {A : Nat → List Int32} {x1 x2 x3 : Int32} (hc : wc.length = 147) (hI : MI f A) (gx1 : (610 ≤ x1.toInt ∧ x1.toInt ≤ 742 ∧ (x1.toInt - 610) % 132 = 0)) (k_58_0 : ∀ (y4 : Int32) (y5 : Int32), (2 ≤ y5.toInt ∧ y5.toInt ≤ 6) → pmE pg X pg_tyl pg_cl (d) 270 58 [.ref 147, .int x1, .int x2, .int x3, .int y4, .int y5] [] (md wc f A) Q) : ∀ (m : Nat) (x4 : Int32) (x5 : Int32), (2 ≤ x5.toInt ∧ x5.toInt ≤ 6) → 6 - x5.toInt < (m : Int) → pmE pg X pg_tyl pg_cl (d) 270 6 [.ref 147, .int x1, .int x2, .int x3, .int x4, .int x5] [] (md wc f A) Q := by
  intro m
  induction m with
  | zero =>
    intro x4 x5 gx5 hm
    exfalso
    have l0 := zi_lo x5
    have u0 := zi_hi x5
    omega
  | succ m ih =>
    intro x4 x5 gx5 hm
    refine pe_iload (j := 5) (by decide +kernel) rfl ?_
    refine pe_aload_n (j := 0) (by decide +kernel) rfl ?_
    refine pe_get (j := 278) (ci := 12) (n := 24) (by decide +kernel) (by decide +kernel) (md_o hc) rfl ?_
    have hr_24_f := hI.1 24
    simp only [MF] at hr_24_f
    refine pz_icmp_ge (off := 46) (t := 58) (by decide +kernel) (by decide) rfl rfl rfl (fun h1 => ?_) (fun h1 => ?_)
    · skip
      exact k_58_0 x4 x5 (by omega)
    · skip
      refine pe_iload (j := 4) (by decide +kernel) rfl ?_
      refine pe_aload_n (j := 0) (by decide +kernel) rfl ?_
      refine pe_get (j := 41) (ci := 12) (n := 21) (by decide +kernel) (by decide +kernel) (md_o hc) rfl ?_
      refine pe_iload (j := 5) (by decide +kernel) rfl ?_
      refine mz_ld158 (by decide +kernel) hc hI rfl (by omega) (by omega) (fun v2 ev2 pv2 => ?_)
      have rv2 : 0 ≤ v2.toInt ∧ v2.toInt ≤ 9 := by have p := pv2; simp only [MP_round] at p; omega
      clear pv2
      refine pe_iload_n (j := 2) (by decide +kernel) rfl ?_
      have lw4 := zi_lo x2
      have uw4 := zi_hi x2
      refine pz_icmp_ne (off := 7) (t := 32) (by decide +kernel) (by decide) rfl rfl rfl (fun h3 => ?_) (fun h3 => ?_)
      · skip
        refine pe_aload_n (j := 0) (by decide +kernel) rfl ?_
        refine pe_get (j := 7) (ci := 12) (n := 0) (by decide +kernel) (by decide +kernel) (md_o hc) rfl ?_
        refine pe_iload_n (j := 1) (by decide +kernel) rfl ?_
        refine pe_bipushv (n := 84) (v := 84) (by decide +kernel) (by decide +kernel) ?_
        refine pz_add (by decide +kernel) rfl kz_84 (by omega) (by omega) (fun z5 hz5 => ?_)
        refine pe_aload_n (j := 0) (by decide +kernel) rfl ?_
        refine pe_get (j := 41) (ci := 12) (n := 21) (by decide +kernel) (by decide +kernel) (md_o hc) rfl ?_
        refine pe_iload (j := 5) (by decide +kernel) rfl ?_
        refine mz_ld158 (by decide +kernel) hc hI rfl (by omega) (by omega) (fun v6 ev6 pv6 => ?_)
        rw [ev6.trans ev2.symm]
        clear pv6 ev6 v6
        refine pz_add (by decide +kernel) hz5 rfl (by omega) (by omega) (fun z7 hz7 => ?_)
        clear hz5
        refine mz_ld148 (by decide +kernel) hc hI hz7 (by omega) (by omega) (fun v8 ev8 pv8 => ?_)
        clear pv8
        clear hz7
        refine pw_add (by decide +kernel) (fun z9 => ?_)
        refine pe_istore (j := 4) (ls' := [.ref 147, .int x1, .int x2, .int x3, .int z9, .int x5]) (by decide +kernel) (Nat.le_of_ble_eq_true rfl) rfl ?_
        refine pz_iinc (j := 5) (n := 1) (by decide +kernel) rfl rfl (by decide +kernel) (by omega) (by omega) (fun z10 hz10 => ?_)
        show pmE pg X pg_tyl pg_cl (d) 270 55 [.ref 147, .int x1, .int x2, .int x3, .int z9, .int z10] [] (md wc f A) _
        refine pe_goto (off := (-49)) (t := 6) (by decide +kernel) (by decide) rfl ?_
        exact ih z9 z10 (by omega) (by omega)
      · skip
        refine pe_iload_n (j := 3) (by decide +kernel) rfl ?_
        refine pe_goto (off := 20) (t := 49) (by decide +kernel) (by decide) rfl ?_
        refine pw_add (by decide +kernel) (fun z11 => ?_)
        refine pe_istore (j := 4) (ls' := [.ref 147, .int x1, .int x2, .int x3, .int z11, .int x5]) (by decide +kernel) (Nat.le_of_ble_eq_true rfl) rfl ?_
        refine pz_iinc (j := 5) (n := 1) (by decide +kernel) rfl rfl (by decide +kernel) (by omega) (by omega) (fun z12 hz12 => ?_)
        show pmE pg X pg_tyl pg_cl (d) 270 55 [.ref 147, .int x1, .int x2, .int x3, .int z11, .int z12] [] (md wc f A) _
        refine pe_goto (off := (-49)) (t := 6) (by decide +kernel) (by decide) rfl ?_
        exact ih z11 z12 (by omega) (by omega)
set_option maxRecDepth 100000 in
set_option maxHeartbeats 8000000 in
theorem MM_270 {X : pm_X} {d : Nat} {wc : pm_W} {f : Nat → Int32} {A : Nat → List Int32} {x1 x2 x3 : Int32} (hc : wc.length = 147) (hI : MI f A) (gx1 : (610 ≤ x1.toInt ∧ x1.toInt ≤ 742 ∧ (x1.toInt - 610) % 132 = 0)) : pmE pg X pg_tyl pg_cl (d) 270 0 (pm_ent (pm_max pg 270) [.ref 147, .int x1, .int x2, .int x3]) [] (md wc f A) (fun q => ∃ (r : Int32), q = (some (.int r), md wc f A, 0, 0) ∧ ((True ∧ True))) := by
  show pmE pg X pg_tyl pg_cl (d) 270 0 [.ref 147, .int x1, .int x2, .int x3, pm_dead, pm_dead] [] (md wc f A) _
  refine pe_iconstv (n := 0) (v := 0) (by decide +kernel) (by decide +kernel) ?_
  refine pe_istore (j := 4) (ls' := [.ref 147, .int x1, .int x2, .int x3, .int 0, pm_dead]) (by decide +kernel) (Nat.le_of_ble_eq_true rfl) rfl ?_
  refine pe_iconstv (n := 2) (v := 2) (by decide +kernel) (by decide +kernel) ?_
  refine pe_istore (j := 5) (ls' := [.ref 147, .int x1, .int x2, .int x3, .int 0, .int 2]) (by decide +kernel) (Nat.le_of_ble_eq_true rfl) rfl ?_
  refine ML_270_6 hc hI (by omega) (fun y1 y2 gy2 => ?_) 5 0 2 (by decide +kernel) (by decide +kernel)
  refine pe_iload (j := 4) (by decide +kernel) rfl ?_
  exact pe_iret (by decide +kernel) rfl rfl ⟨y1, rfl, ⟨trivial, trivial⟩⟩
set_option maxRecDepth 100000 in
set_option maxHeartbeats 8000000 in
theorem ML_271_5 {X : pm_X} {d : Nat} {wc : pm_W} {Q : pm_R → Prop} {f : Nat → Int32} {A : Nat → List Int32} {x1 x2 : Int32} (hc : wc.length = 147) (hI : MI f A) (gx1 : (610 ≤ x1.toInt ∧ x1.toInt ≤ 742 ∧ (x1.toInt - 610) % 132 = 0)) (gx2 : (2 ≤ x2.toInt ∧ x2.toInt ≤ 6)) (k_54_0 : ∀ (i3 : Int64) (y5 : Int32), (6 ≤ y5.toInt ∧ y5.toInt ≤ 6) → pmE pg X pg_tyl pg_cl (d) 271 54 [.ref 147, .int x1, .int x2, .long i3, pm_dead, .int y5] [] (md wc f A) Q) : ∀ (m : Nat) (j3 : Int64) (x5 : Int32), (0 ≤ x5.toInt ∧ x5.toInt ≤ 6) → 6 - x5.toInt < (m : Int) → pmE pg X pg_tyl pg_cl (d) 271 5 [.ref 147, .int x1, .int x2, .long j3, pm_dead, .int x5] [] (md wc f A) Q := by
  intro m
  induction m with
  | zero =>
    intro j3 x5 gx5 hm
    exfalso
    have l0 := zi_lo x5
    have u0 := zi_hi x5
    omega
  | succ m ih =>
    intro j3 x5 gx5 hm
    refine pe_iload (j := 5) (by decide +kernel) rfl ?_
    refine pe_bipushv (n := 6) (v := 6) (by decide +kernel) (by decide +kernel) ?_
    refine pz_icmp_ge (off := 45) (t := 54) (by decide +kernel) (by decide) rfl rfl kz_6 (fun h1 => ?_) (fun h1 => ?_)
    · skip
      exact k_54_0 j3 x5 (by omega)
    · skip
      refine pe_lload_n (j := 3) (by decide +kernel) rfl ?_
      refine pe_iload (j := 5) (by decide +kernel) rfl ?_
      refine pe_iload_n (j := 2) (by decide +kernel) rfl ?_
      refine pz_icmp_ge (off := 27) (t := 43) (by decide +kernel) (by decide) rfl rfl rfl (fun h2 => ?_) (fun h2 => ?_)
      · skip
        refine pw_ldc2 (j := 281) (v := 100) (by decide +kernel) (by decide +kernel) (fun l3 => ?_)
        refine pw_lmul (by decide +kernel) (fun l4 => ?_)
        refine pe_lstore_n (j := 3) (ls' := [.ref 147, .int x1, .int x2, .long l4, pm_dead, .int x5]) (by decide +kernel) (Nat.le_of_ble_eq_true rfl) rfl ?_
        refine pz_iinc (j := 5) (n := 1) (by decide +kernel) rfl rfl (by decide +kernel) (by omega) (by omega) (fun z5 hz5 => ?_)
        show pmE pg X pg_tyl pg_cl (d) 271 51 [.ref 147, .int x1, .int x2, .long l4, pm_dead, .int z5] [] (md wc f A) _
        refine pe_goto (off := (-46)) (t := 5) (by decide +kernel) (by decide) rfl ?_
        exact ih l4 z5 (by omega) (by omega)
      · skip
        refine pe_bipushv (n := 100) (v := 100) (by decide +kernel) (by decide +kernel) ?_
        refine pe_aload_n (j := 0) (by decide +kernel) rfl ?_
        refine pe_get (j := 7) (ci := 12) (n := 0) (by decide +kernel) (by decide +kernel) (md_o hc) rfl ?_
        refine pe_iload_n (j := 1) (by decide +kernel) rfl ?_
        refine pe_bipushv (n := 93) (v := 93) (by decide +kernel) (by decide +kernel) ?_
        refine pz_add (by decide +kernel) rfl kz_93 (by omega) (by omega) (fun z6 hz6 => ?_)
        refine pe_aload_n (j := 0) (by decide +kernel) rfl ?_
        refine pe_get (j := 41) (ci := 12) (n := 21) (by decide +kernel) (by decide +kernel) (md_o hc) rfl ?_
        refine pe_iload (j := 5) (by decide +kernel) rfl ?_
        refine mz_ld158 (by decide +kernel) hc hI rfl (by omega) (by omega) (fun v7 ev7 pv7 => ?_)
        have rv7 : 0 ≤ v7.toInt ∧ v7.toInt ≤ 9 := by have p := pv7; simp only [MP_round] at p; omega
        clear pv7
        refine pz_add (by decide +kernel) hz6 rfl (by omega) (by omega) (fun z8 hz8 => ?_)
        clear hz6
        refine mz_ld148 (by decide +kernel) hc hI hz8 (by omega) (by omega) (fun v9 ev9 pv9 => ?_)
        clear pv9
        clear hz8
        refine pw_sub (by decide +kernel) (fun z10 => ?_)
        refine pw_i2l (by decide +kernel) (fun l11 => ?_)
        refine pe_goto (off := 6) (t := 46) (by decide +kernel) (by decide) rfl ?_
        refine pw_lmul (by decide +kernel) (fun l12 => ?_)
        refine pe_lstore_n (j := 3) (ls' := [.ref 147, .int x1, .int x2, .long l12, pm_dead, .int x5]) (by decide +kernel) (Nat.le_of_ble_eq_true rfl) rfl ?_
        refine pz_iinc (j := 5) (n := 1) (by decide +kernel) rfl rfl (by decide +kernel) (by omega) (by omega) (fun z13 hz13 => ?_)
        show pmE pg X pg_tyl pg_cl (d) 271 51 [.ref 147, .int x1, .int x2, .long l12, pm_dead, .int z13] [] (md wc f A) _
        refine pe_goto (off := (-46)) (t := 5) (by decide +kernel) (by decide) rfl ?_
        exact ih l12 z13 (by omega) (by omega)
set_option maxRecDepth 100000 in
set_option maxHeartbeats 8000000 in
theorem MM_271 {X : pm_X} {d : Nat} {wc : pm_W} {f : Nat → Int32} {A : Nat → List Int32} {x1 x2 : Int32} (hc : wc.length = 147) (hI : MI f A) (gx1 : (610 ≤ x1.toInt ∧ x1.toInt ≤ 742 ∧ (x1.toInt - 610) % 132 = 0)) (gx2 : (2 ≤ x2.toInt ∧ x2.toInt ≤ 6)) : pmE pg X pg_tyl pg_cl (d) 271 0 (pm_ent (pm_max pg 271) [.ref 147, .int x1, .int x2]) [] (md wc f A) (fun q => ∃ (l : Int64), q = (some (.long l), md wc f A, 0, 0) ∧ ((True))) := by
  show pmE pg X pg_tyl pg_cl (d) 271 0 [.ref 147, .int x1, .int x2, pm_dead, pm_dead, pm_dead] [] (md wc f A) _
  refine pw_lconst (n := 1) (by decide +kernel) (fun l1 => ?_)
  refine pe_lstore_n (j := 3) (ls' := [.ref 147, .int x1, .int x2, .long l1, pm_dead, pm_dead]) (by decide +kernel) (Nat.le_of_ble_eq_true rfl) rfl ?_
  refine pe_iconstv (n := 0) (v := 0) (by decide +kernel) (by decide +kernel) ?_
  refine pe_istore (j := 5) (ls' := [.ref 147, .int x1, .int x2, .long l1, pm_dead, .int 0]) (by decide +kernel) (Nat.le_of_ble_eq_true rfl) rfl ?_
  refine ML_271_5 hc hI (by omega) (by omega) (fun l2 y3 gy3 => ?_) 7 l1 0 (by decide +kernel) (by decide +kernel)
  refine pe_lload_n (j := 3) (by decide +kernel) rfl ?_
  exact pe_lret (by decide +kernel) rfl ⟨l2, rfl, trivial⟩
end
section
set_option maxRecDepth 100000 in
set_option maxHeartbeats 8000000 in
theorem ML_288_5 {X : pm_X} {d : Nat} {wc : pm_W} {Q : pm_R → Prop} {f : Nat → Int32} {A : Nat → List Int32} {x1 x2 : Int32} (hc : wc.length = 147) (hI : MI f A) (gx1 : (610 ≤ x1.toInt ∧ x1.toInt ≤ 742 ∧ (x1.toInt - 610) % 132 = 0)) (k_42_0 : ∀ (y3 : Int32) (y4 : Int32), (0 ≤ y4.toInt ∧ y4.toInt ≤ 7) → pmE pg X pg_tyl pg_cl (d + 1) 288 42 [.ref 147, .int x1, .int x2, .int y3, .int y4] [] (md wc f A) Q) : ∀ (m : Nat) (x3 : Int32) (x4 : Int32), (0 ≤ x4.toInt ∧ x4.toInt ≤ 7) → 7 - x4.toInt < (m : Int) → pmE pg X pg_tyl pg_cl (d + 1) 288 5 [.ref 147, .int x1, .int x2, .int x3, .int x4] [] (md wc f A) Q := by
  intro m
  induction m with
  | zero =>
    intro x3 x4 gx4 hm
    exfalso
    have l0 := zi_lo x4
    have u0 := zi_hi x4
    omega
  | succ m ih =>
    intro x3 x4 gx4 hm
    refine pe_iload (j := 4) (by decide +kernel) rfl ?_
    refine pe_aload_n (j := 0) (by decide +kernel) rfl ?_
    refine pe_get (j := 7) (ci := 12) (n := 0) (by decide +kernel) (by decide +kernel) (md_o hc) rfl ?_
    refine pe_iload_n (j := 1) (by decide +kernel) rfl ?_
    refine pe_iconstv (n := 1) (v := 1) (by decide +kernel) (by decide +kernel) ?_
    refine pz_add (by decide +kernel) rfl kz_1 (by omega) (by omega) (fun z1 hz1 => ?_)
    refine mz_ld148 (by decide +kernel) hc hI hz1 (by omega) (by omega) (fun v2 ev2 pv2 => ?_)
    have rv2 : 0 ≤ v2.toInt ∧ v2.toInt ≤ 7 := MT_wants pv2 (by omega)
    clear pv2
    clear hz1
    refine pz_icmp_ge (off := 27) (t := 42) (by decide +kernel) (by decide) rfl rfl rfl (fun h3 => ?_) (fun h3 => ?_)
    · skip
      exact k_42_0 x3 x4 (by omega)
    · skip
      refine pe_iload_n (j := 3) (by decide +kernel) rfl ?_
      refine pe_iload_n (j := 2) (by decide +kernel) rfl ?_
      refine pe_iload (j := 4) (by decide +kernel) rfl ?_
      refine pw_shr (by decide +kernel) (fun z4 => ?_)
      refine pe_iconstv (n := 1) (v := 1) (by decide +kernel) (by decide +kernel) ?_
      refine pz_and1 (by decide +kernel) (fun z5 hz5 => ?_)
      refine pe_aload_n (j := 0) (by decide +kernel) rfl ?_
      refine pe_iload_n (j := 1) (by decide +kernel) rfl ?_
      refine pe_iload (j := 4) (by decide +kernel) rfl ?_
      refine pe_iconstv (n := 3) (v := 3) (by decide +kernel) (by decide +kernel) ?_
      refine pi_V (j := 172) (mj := 224) (by decide +kernel) (cll_V (args := [.int 3, .int x4, .int x1]) (n := 3) (by decide +kernel) rfl rfl (md_o hc) (by decide +kernel) (Nat.le_of_ble_eq_true rfl) (Nat.le_of_ble_eq_true rfl)) ?_
      show pmE pg X pg_tyl pg_cl (d) 224 0 [.ref 147, .int x1, .int x4, .int 3] [] (md wc f A) _
      refine pe_aload_n (j := 0) (by decide +kernel) rfl ?_
      refine pe_get (j := 7) (ci := 12) (n := 0) (by decide +kernel) (by decide +kernel) (md_o hc) rfl ?_
      refine pe_iload_n (j := 1) (by decide +kernel) rfl ?_
      refine pe_bipushv (n := 102) (v := 102) (by decide +kernel) (by decide +kernel) ?_
      refine pz_add (by decide +kernel) rfl kz_102 (by omega) (by omega) (fun z6 hz6 => ?_)
      refine pe_iconstv (n := 4) (v := 4) (by decide +kernel) (by decide +kernel) ?_
      refine pe_iload_n (j := 2) (by decide +kernel) rfl ?_
      refine pz_mul (by decide +kernel) kz_4 rfl (by omega) (by omega) (fun z7 hz7 => ?_)
      refine pz_add (by decide +kernel) hz6 hz7 (by omega) (by omega) (fun z8 hz8 => ?_)
      clear hz6 hz7
      refine pe_iload_n (j := 3) (by decide +kernel) rfl ?_
      refine pz_add (by decide +kernel) hz8 kz_3 (by omega) (by omega) (fun z9 hz9 => ?_)
      clear hz8
      refine mz_ld148 (by decide +kernel) hc hI hz9 (by omega) (by omega) (fun v10 ev10 pv10 => ?_)
      clear pv10
      clear hz9
      refine pe_iret (by decide +kernel) rfl rfl ⟨rfl, rfl, ?_⟩
      show pmE pg X pg_tyl pg_cl (d + 1) 288 33 [.ref 147, .int x1, .int x2, .int x3, .int x4] [.int v10, .int z5, .int x3] (md wc f A) _
      refine pw_mul (by decide +kernel) (fun z11 => ?_)
      refine pw_add (by decide +kernel) (fun z12 => ?_)
      refine pe_istore_n (j := 3) (ls' := [.ref 147, .int x1, .int x2, .int z12, .int x4]) (by decide +kernel) (Nat.le_of_ble_eq_true rfl) rfl ?_
      refine pz_iinc (j := 4) (n := 1) (by decide +kernel) rfl rfl (by decide +kernel) (by omega) (by omega) (fun z13 hz13 => ?_)
      show pmE pg X pg_tyl pg_cl (d + 1) 288 39 [.ref 147, .int x1, .int x2, .int z12, .int z13] [] (md wc f A) _
      refine pe_goto (off := (-34)) (t := 5) (by decide +kernel) (by decide) rfl ?_
      exact ih z12 z13 (by omega) (by omega)
set_option maxRecDepth 100000 in
set_option maxHeartbeats 8000000 in
theorem MM_288 {X : pm_X} {d : Nat} {wc : pm_W} {f : Nat → Int32} {A : Nat → List Int32} {x1 x2 : Int32} (hc : wc.length = 147) (hI : MI f A) (gx1 : (610 ≤ x1.toInt ∧ x1.toInt ≤ 742 ∧ (x1.toInt - 610) % 132 = 0)) : pmE pg X pg_tyl pg_cl (d + 1) 288 0 (pm_ent (pm_max pg 288) [.ref 147, .int x1, .int x2]) [] (md wc f A) (fun q => ∃ (r : Int32), q = (some (.int r), md wc f A, 0, 0) ∧ ((True ∧ True))) := by
  show pmE pg X pg_tyl pg_cl (d + 1) 288 0 [.ref 147, .int x1, .int x2, pm_dead, pm_dead] [] (md wc f A) _
  refine pe_iconstv (n := 0) (v := 0) (by decide +kernel) (by decide +kernel) ?_
  refine pe_istore_n (j := 3) (ls' := [.ref 147, .int x1, .int x2, .int 0, pm_dead]) (by decide +kernel) (Nat.le_of_ble_eq_true rfl) rfl ?_
  refine pe_iconstv (n := 0) (v := 0) (by decide +kernel) (by decide +kernel) ?_
  refine pe_istore (j := 4) (ls' := [.ref 147, .int x1, .int x2, .int 0, .int 0]) (by decide +kernel) (Nat.le_of_ble_eq_true rfl) rfl ?_
  refine ML_288_5 hc hI (by omega) (fun y1 y2 gy2 => ?_) 8 0 0 (by decide +kernel) (by decide +kernel)
  refine pe_iload_n (j := 3) (by decide +kernel) rfl ?_
  exact pe_iret (by decide +kernel) rfl rfl ⟨y1, rfl, ⟨trivial, trivial⟩⟩
set_option maxRecDepth 100000 in
set_option maxHeartbeats 8000000 in
theorem ML_289_4 {X : pm_X} {d : Nat} {wc : pm_W} {Q : pm_R → Prop} {f : Nat → Int32} {A : Nat → List Int32} {x0 : Int32} (hc : wc.length = 147) (hI : MI f A) (k_21_0 : ∀ (y1 : Int32) (y2 : Int32), (y2.toInt ≤ 0) → pmE pg X pg_tyl pg_cl (d) 289 21 [.int x0, .int y1, .int y2] [] (md wc f A) Q) : ∀ (m : Nat) (x1 : Int32) (x2 : Int32), x2.toInt - (-2147483648) < (m : Int) → pmE pg X pg_tyl pg_cl (d) 289 4 [.int x0, .int x1, .int x2] [] (md wc f A) Q := by
  intro m
  induction m with
  | zero =>
    intro x1 x2 hm
    exfalso
    have l0 := zi_lo x2
    have u0 := zi_hi x2
    omega
  | succ m ih =>
    intro x1 x2 hm
    refine pe_iload_n (j := 2) (by decide +kernel) rfl ?_
    have lw2 := zi_lo x2
    have uw2 := zi_hi x2
    refine pz_if_le (off := 16) (t := 21) (by decide +kernel) (by decide) rfl rfl (fun h1 => ?_) (fun h1 => ?_)
    · skip
      exact k_21_0 x1 x2 (by omega)
    · skip
      refine pe_iload_n (j := 1) (by decide +kernel) rfl ?_
      refine pe_iload_n (j := 2) (by decide +kernel) rfl ?_
      refine pe_iconstv (n := 1) (v := 1) (by decide +kernel) (by decide +kernel) ?_
      refine pz_and1 (by decide +kernel) (fun z3 hz3 => ?_)
      refine pw_add (by decide +kernel) (fun z4 => ?_)
      refine pe_istore_n (j := 1) (ls' := [.int x0, .int z4, .int x2]) (by decide +kernel) (Nat.le_of_ble_eq_true rfl) rfl ?_
      refine pe_iload_n (j := 2) (by decide +kernel) rfl ?_
      refine pe_iconstv (n := 1) (v := 1) (by decide +kernel) (by decide +kernel) ?_
      refine pz_shrl (n := 1) (p := 2) (by decide +kernel) rfl (by decide +kernel) (by decide +kernel) (by omega) (fun z5 hz5 => ?_)
      refine pe_istore_n (j := 2) (ls' := [.int x0, .int z4, .int z5]) (by decide +kernel) (Nat.le_of_ble_eq_true rfl) rfl ?_
      refine pe_goto (off := (-14)) (t := 4) (by decide +kernel) (by decide) rfl ?_
      exact ih z4 z5 (by omega)
set_option maxRecDepth 100000 in
set_option maxHeartbeats 8000000 in
theorem MM_289 {X : pm_X} {d : Nat} {wc : pm_W} {f : Nat → Int32} {A : Nat → List Int32} {x0 : Int32} (hc : wc.length = 147) (hI : MI f A) : pmE pg X pg_tyl pg_cl (d) 289 0 (pm_ent (pm_max pg 289) [.int x0]) [] (md wc f A) (fun q => ∃ (r : Int32), q = (some (.int r), md wc f A, 0, 0) ∧ ((True ∧ True))) := by
  show pmE pg X pg_tyl pg_cl (d) 289 0 [.int x0, pm_dead, pm_dead] [] (md wc f A) _
  refine pe_iconstv (n := 0) (v := 0) (by decide +kernel) (by decide +kernel) ?_
  refine pe_istore_n (j := 1) (ls' := [.int x0, .int 0, pm_dead]) (by decide +kernel) (Nat.le_of_ble_eq_true rfl) rfl ?_
  refine pe_iload_n (j := 0) (by decide +kernel) rfl ?_
  refine pe_istore_n (j := 2) (ls' := [.int x0, .int 0, .int x0]) (by decide +kernel) (Nat.le_of_ble_eq_true rfl) rfl ?_
  refine ML_289_4 hc hI (fun y1 y2 gy2 => ?_) 4294967296 0 x0 (by have l0 := zi_lo x0; have u0 := zi_hi x0; omega)
  refine pe_iload_n (j := 1) (by decide +kernel) rfl ?_
  exact pe_iret (by decide +kernel) rfl rfl ⟨y1, rfl, ⟨trivial, trivial⟩⟩
set_option maxRecDepth 100000 in
set_option maxHeartbeats 8000000 in
theorem ML_297_17 {X : pm_X} {d : Nat} {wc : pm_W} {Q : pm_R → Prop} {f : Nat → Int32} {A : Nat → List Int32} {x1 x3 : Int32} (hc : wc.length = 147) (hI : MI f A) (gx1 : (610 ≤ x1.toInt ∧ x1.toInt ≤ 742 ∧ (x1.toInt - 610) % 132 = 0)) (gx3 : (0 ≤ x3.toInt ∧ x3.toInt ≤ 8)) (k_65_0 : ∀ (y2 : Int32) (y4 : Int32), (0 ≤ y4.toInt ∧ y4.toInt ≤ 9) → pmE pg X pg_tyl pg_cl (d + 1) 297 65 [.ref 147, .int x1, .int y2, .int x3, .int y4] [] (md wc f A) Q) : ∀ (m : Nat) (x2 : Int32) (x4 : Int32), (0 ≤ x4.toInt ∧ x4.toInt ≤ 9) → 9 - x4.toInt < (m : Int) → pmE pg X pg_tyl pg_cl (d + 1) 297 17 [.ref 147, .int x1, .int x2, .int x3, .int x4] [] (md wc f A) Q := by
  intro m
  induction m with
  | zero =>
    intro x2 x4 gx4 hm
    exfalso
    have l0 := zi_lo x4
    have u0 := zi_hi x4
    omega
  | succ m ih =>
    intro x2 x4 gx4 hm
    refine pe_iload (j := 4) (by decide +kernel) rfl ?_
    refine pe_aload_n (j := 0) (by decide +kernel) rfl ?_
    refine pe_get (j := 7) (ci := 12) (n := 0) (by decide +kernel) (by decide +kernel) (md_o hc) rfl ?_
    refine pe_iload_n (j := 1) (by decide +kernel) rfl ?_
    refine mz_ld148 (by decide +kernel) hc hI rfl (by omega) (by omega) (fun v1 ev1 pv1 => ?_)
    have rv1 : 0 ≤ v1.toInt ∧ v1.toInt ≤ 9 := MT_people pv1 (by omega)
    clear pv1
    refine pz_icmp_ge (off := 40) (t := 65) (by decide +kernel) (by decide) rfl rfl rfl (fun h2 => ?_) (fun h2 => ?_)
    · skip
      exact k_65_0 x2 x4 (by omega)
    · skip
      refine pe_iload_n (j := 2) (by decide +kernel) rfl ?_
      refine pe_iload_n (j := 3) (by decide +kernel) rfl ?_
      refine pe_iload (j := 4) (by decide +kernel) rfl ?_
      refine pz_icmp_eq (off := 24) (t := 56) (by decide +kernel) (by decide) rfl rfl rfl (fun h3 => ?_) (fun h3 => ?_)
      · skip
        refine pe_iconstv (n := 0) (v := 0) (by decide +kernel) (by decide +kernel) ?_
        have lw5 := zi_lo x2
        have uw5 := zi_hi x2
        refine pz_add (by decide +kernel) rfl kz_0 (by omega) (by omega) (fun z4 hz4 => ?_)
        refine pe_istore_n (j := 2) (ls' := [.ref 147, .int x1, .int z4, .int x3, .int x4]) (by decide +kernel) (Nat.le_of_ble_eq_true rfl) rfl ?_
        refine pz_iinc (j := 4) (n := 1) (by decide +kernel) rfl rfl (by decide +kernel) (by omega) (by omega) (fun z6 hz6 => ?_)
        show pmE pg X pg_tyl pg_cl (d + 1) 297 62 [.ref 147, .int x1, .int z4, .int x3, .int z6] [] (md wc f A) _
        refine pe_goto (off := (-45)) (t := 17) (by decide +kernel) (by decide) rfl ?_
        exact ih z4 z6 (by omega) (by omega)
      · skip
        refine pe_aload_n (j := 0) (by decide +kernel) rfl ?_
        refine pe_iload_n (j := 3) (by decide +kernel) rfl ?_
        refine pe_iload (j := 4) (by decide +kernel) rfl ?_
        refine pi_V (j := 349) (mj := 296) (by decide +kernel) (cll_V (args := [.int x4, .int x3]) (n := 2) (by decide +kernel) rfl rfl (md_o hc) (by decide +kernel) (Nat.le_of_ble_eq_true rfl) (Nat.le_of_ble_eq_true rfl)) ?_
        show pmE pg X pg_tyl pg_cl (d) 296 0 [.ref 147, .int x3, .int x4] [] (md wc f A) _
        refine pe_aload_n (j := 0) (by decide +kernel) rfl ?_
        refine pe_get (j := 50) (ci := 12) (n := 26) (by decide +kernel) (by decide +kernel) (md_o hc) rfl ?_
        refine pe_bipushv (n := 10) (v := 10) (by decide +kernel) (by decide +kernel) ?_
        refine pe_iload_n (j := 1) (by decide +kernel) rfl ?_
        refine pz_mul (by decide +kernel) kz_10 rfl (by omega) (by omega) (fun z7 hz7 => ?_)
        refine pe_iload_n (j := 2) (by decide +kernel) rfl ?_
        refine pz_add (by decide +kernel) hz7 rfl (by omega) (by omega) (fun z8 hz8 => ?_)
        clear hz7
        refine mz_ld161 (by decide +kernel) hc hI hz8 (by omega) (by omega) (fun v9 ev9 => ?_)
        clear hz8
        refine pe_aload_n (j := 0) (by decide +kernel) rfl ?_
        refine pe_get (j := 47) (ci := 12) (n := 25) (by decide +kernel) (by decide +kernel) (md_o hc) rfl ?_
        refine pe_bipushv (n := 10) (v := 10) (by decide +kernel) (by decide +kernel) ?_
        refine pe_iload_n (j := 1) (by decide +kernel) rfl ?_
        refine pz_mul (by decide +kernel) kz_10 rfl (by omega) (by omega) (fun z10 hz10 => ?_)
        refine pe_iload_n (j := 2) (by decide +kernel) rfl ?_
        refine pz_add (by decide +kernel) hz10 rfl (by omega) (by omega) (fun z11 hz11 => ?_)
        clear hz10
        refine mz_ld160 (by decide +kernel) hc hI hz11 (by omega) (by omega) (fun v12 ev12 => ?_)
        clear hz11
        refine pw_sub (by decide +kernel) (fun z13 => ?_)
        refine pe_aload_n (j := 0) (by decide +kernel) rfl ?_
        refine pe_get (j := 53) (ci := 12) (n := 27) (by decide +kernel) (by decide +kernel) (md_o hc) rfl ?_
        refine pe_bipushv (n := 10) (v := 10) (by decide +kernel) (by decide +kernel) ?_
        refine pe_iload_n (j := 1) (by decide +kernel) rfl ?_
        refine pz_mul (by decide +kernel) kz_10 rfl (by omega) (by omega) (fun z14 hz14 => ?_)
        refine pe_iload_n (j := 2) (by decide +kernel) rfl ?_
        refine pz_add (by decide +kernel) hz14 rfl (by omega) (by omega) (fun z15 hz15 => ?_)
        clear hz14
        refine mz_ld162 (by decide +kernel) hc hI hz15 (by omega) (by omega) (fun v16 ev16 => ?_)
        clear hz15
        refine pw_sub (by decide +kernel) (fun z17 => ?_)
        refine pe_iret (by decide +kernel) rfl rfl ⟨rfl, rfl, ?_⟩
        show pmE pg X pg_tyl pg_cl (d + 1) 297 42 [.ref 147, .int x1, .int x2, .int x3, .int x4] [.int z17, .int x2] (md wc f A) _
        have lw19 := zi_lo z17
        have uw19 := zi_hi z17
        refine pz_if_ge (off := 14) (t := 56) (by decide +kernel) (by decide) rfl rfl (fun h18 => ?_) (fun h18 => ?_)
        · skip
          refine pe_iconstv (n := 0) (v := 0) (by decide +kernel) (by decide +kernel) ?_
          have lw21 := zi_lo x2
          have uw21 := zi_hi x2
          refine pz_add (by decide +kernel) rfl kz_0 (by omega) (by omega) (fun z20 hz20 => ?_)
          refine pe_istore_n (j := 2) (ls' := [.ref 147, .int x1, .int z20, .int x3, .int x4]) (by decide +kernel) (Nat.le_of_ble_eq_true rfl) rfl ?_
          refine pz_iinc (j := 4) (n := 1) (by decide +kernel) rfl rfl (by decide +kernel) (by omega) (by omega) (fun z22 hz22 => ?_)
          show pmE pg X pg_tyl pg_cl (d + 1) 297 62 [.ref 147, .int x1, .int z20, .int x3, .int z22] [] (md wc f A) _
          refine pe_goto (off := (-45)) (t := 17) (by decide +kernel) (by decide) rfl ?_
          exact ih z20 z22 (by omega) (by omega)
        · skip
          refine pe_aload_n (j := 0) (by decide +kernel) rfl ?_
          refine pe_iload_n (j := 3) (by decide +kernel) rfl ?_
          refine pe_iload (j := 4) (by decide +kernel) rfl ?_
          refine pi_V (j := 349) (mj := 296) (by decide +kernel) (cll_V (args := [.int x4, .int x3]) (n := 2) (by decide +kernel) rfl rfl (md_o hc) (by decide +kernel) (Nat.le_of_ble_eq_true rfl) (Nat.le_of_ble_eq_true rfl)) ?_
          show pmE pg X pg_tyl pg_cl (d) 296 0 [.ref 147, .int x3, .int x4] [] (md wc f A) _
          refine pe_aload_n (j := 0) (by decide +kernel) rfl ?_
          refine pe_get (j := 50) (ci := 12) (n := 26) (by decide +kernel) (by decide +kernel) (md_o hc) rfl ?_
          refine pe_bipushv (n := 10) (v := 10) (by decide +kernel) (by decide +kernel) ?_
          refine pe_iload_n (j := 1) (by decide +kernel) rfl ?_
          refine pz_mul (by decide +kernel) kz_10 rfl (by omega) (by omega) (fun z23 hz23 => ?_)
          refine pe_iload_n (j := 2) (by decide +kernel) rfl ?_
          refine pz_add (by decide +kernel) hz23 rfl (by omega) (by omega) (fun z24 hz24 => ?_)
          clear hz23
          refine mz_ld161 (by decide +kernel) hc hI hz24 (by omega) (by omega) (fun v25 ev25 => ?_)
          rw [ev25.trans ev9.symm]
          clear ev25 v25
          clear hz24
          refine pe_aload_n (j := 0) (by decide +kernel) rfl ?_
          refine pe_get (j := 47) (ci := 12) (n := 25) (by decide +kernel) (by decide +kernel) (md_o hc) rfl ?_
          refine pe_bipushv (n := 10) (v := 10) (by decide +kernel) (by decide +kernel) ?_
          refine pe_iload_n (j := 1) (by decide +kernel) rfl ?_
          refine pz_mul (by decide +kernel) kz_10 rfl (by omega) (by omega) (fun z26 hz26 => ?_)
          refine pe_iload_n (j := 2) (by decide +kernel) rfl ?_
          refine pz_add (by decide +kernel) hz26 rfl (by omega) (by omega) (fun z27 hz27 => ?_)
          clear hz26
          refine mz_ld160 (by decide +kernel) hc hI hz27 (by omega) (by omega) (fun v28 ev28 => ?_)
          rw [ev28.trans ev12.symm]
          clear ev28 v28
          clear hz27
          refine pw_sub (by decide +kernel) (fun z29 => ?_)
          refine pe_aload_n (j := 0) (by decide +kernel) rfl ?_
          refine pe_get (j := 53) (ci := 12) (n := 27) (by decide +kernel) (by decide +kernel) (md_o hc) rfl ?_
          refine pe_bipushv (n := 10) (v := 10) (by decide +kernel) (by decide +kernel) ?_
          refine pe_iload_n (j := 1) (by decide +kernel) rfl ?_
          refine pz_mul (by decide +kernel) kz_10 rfl (by omega) (by omega) (fun z30 hz30 => ?_)
          refine pe_iload_n (j := 2) (by decide +kernel) rfl ?_
          refine pz_add (by decide +kernel) hz30 rfl (by omega) (by omega) (fun z31 hz31 => ?_)
          clear hz30
          refine mz_ld162 (by decide +kernel) hc hI hz31 (by omega) (by omega) (fun v32 ev32 => ?_)
          rw [ev32.trans ev16.symm]
          clear ev32 v32
          clear hz31
          refine pw_sub (by decide +kernel) (fun z33 => ?_)
          refine pe_iret (by decide +kernel) rfl rfl ⟨rfl, rfl, ?_⟩
          show pmE pg X pg_tyl pg_cl (d + 1) 297 52 [.ref 147, .int x1, .int x2, .int x3, .int x4] [.int z33, .int x2] (md wc f A) _
          refine pw_neg (by decide +kernel) (fun z34 => ?_)
          refine pe_goto (off := 4) (t := 57) (by decide +kernel) (by decide) rfl ?_
          refine pw_add (by decide +kernel) (fun z35 => ?_)
          refine pe_istore_n (j := 2) (ls' := [.ref 147, .int x1, .int z35, .int x3, .int x4]) (by decide +kernel) (Nat.le_of_ble_eq_true rfl) rfl ?_
          refine pz_iinc (j := 4) (n := 1) (by decide +kernel) rfl rfl (by decide +kernel) (by omega) (by omega) (fun z36 hz36 => ?_)
          show pmE pg X pg_tyl pg_cl (d + 1) 297 62 [.ref 147, .int x1, .int z35, .int x3, .int z36] [] (md wc f A) _
          refine pe_goto (off := (-45)) (t := 17) (by decide +kernel) (by decide) rfl ?_
          exact ih z35 z36 (by omega) (by omega)
set_option maxRecDepth 100000 in
set_option maxHeartbeats 8000000 in
theorem ML_297_4 {X : pm_X} {d : Nat} {wc : pm_W} {Q : pm_R → Prop} {f : Nat → Int32} {A : Nat → List Int32} {x1 : Int32} (hc : wc.length = 147) (hI : MI f A) (gx1 : (610 ≤ x1.toInt ∧ x1.toInt ≤ 742 ∧ (x1.toInt - 610) % 132 = 0)) (k_71_0 : ∀ (y2 : Int32) (y3 : Int32) (v4 : Value), (0 ≤ y3.toInt ∧ y3.toInt ≤ 9) → pmE pg X pg_tyl pg_cl (d + 1) 297 71 [.ref 147, .int x1, .int y2, .int y3, v4] [] (md wc f A) Q) : ∀ (m : Nat) (x2 : Int32) (x3 : Int32) (u4 : Value), (0 ≤ x3.toInt ∧ x3.toInt ≤ 9) → 9 - x3.toInt < (m : Int) → pmE pg X pg_tyl pg_cl (d + 1) 297 4 [.ref 147, .int x1, .int x2, .int x3, u4] [] (md wc f A) Q := by
  intro m
  induction m with
  | zero =>
    intro x2 x3 u4 gx3 hm
    exfalso
    have l0 := zi_lo x3
    have u0 := zi_hi x3
    omega
  | succ m ih =>
    intro x2 x3 u4 gx3 hm
    refine pe_iload_n (j := 3) (by decide +kernel) rfl ?_
    refine pe_aload_n (j := 0) (by decide +kernel) rfl ?_
    refine pe_get (j := 7) (ci := 12) (n := 0) (by decide +kernel) (by decide +kernel) (md_o hc) rfl ?_
    refine pe_iload_n (j := 1) (by decide +kernel) rfl ?_
    refine mz_ld148 (by decide +kernel) hc hI rfl (by omega) (by omega) (fun v1 ev1 pv1 => ?_)
    have rv1 : 0 ≤ v1.toInt ∧ v1.toInt ≤ 9 := MT_people pv1 (by omega)
    clear pv1
    refine pz_icmp_ge (off := 60) (t := 71) (by decide +kernel) (by decide) rfl rfl rfl (fun h2 => ?_) (fun h2 => ?_)
    · skip
      exact k_71_0 x2 x3 (u4) (by omega)
    · skip
      refine pe_iconstv (n := 0) (v := 0) (by decide +kernel) (by decide +kernel) ?_
      refine pe_istore (j := 4) (ls' := [.ref 147, .int x1, .int x2, .int x3, .int 0]) (by decide +kernel) (Nat.le_of_ble_eq_true rfl) rfl ?_
      refine ML_297_17 hc hI (by omega) (by omega) (fun y3 y4 gy4 => ?_) 10 x2 0 (by decide +kernel) (by decide +kernel)
      refine pz_iinc (j := 3) (n := 1) (by decide +kernel) rfl rfl (by decide +kernel) (by omega) (by omega) (fun z5 hz5 => ?_)
      show pmE pg X pg_tyl pg_cl (d + 1) 297 68 [.ref 147, .int x1, .int y3, .int z5, .int y4] [] (md wc f A) _
      refine pe_goto (off := (-64)) (t := 4) (by decide +kernel) (by decide) rfl ?_
      exact ih y3 z5 (.int y4) (by omega) (by omega)
set_option maxRecDepth 100000 in
set_option maxHeartbeats 8000000 in
theorem MM_297 {X : pm_X} {d : Nat} {wc : pm_W} {f : Nat → Int32} {A : Nat → List Int32} {x1 : Int32} (hc : wc.length = 147) (hI : MI f A) (gx1 : (610 ≤ x1.toInt ∧ x1.toInt ≤ 742 ∧ (x1.toInt - 610) % 132 = 0)) : pmE pg X pg_tyl pg_cl (d + 1) 297 0 (pm_ent (pm_max pg 297) [.ref 147, .int x1]) [] (md wc f A) (fun q => ∃ (r : Int32), q = (some (.int r), md wc f A, 0, 0) ∧ ((True ∧ True))) := by
  show pmE pg X pg_tyl pg_cl (d + 1) 297 0 [.ref 147, .int x1, pm_dead, pm_dead, pm_dead] [] (md wc f A) _
  refine pe_iconstv (n := 0) (v := 0) (by decide +kernel) (by decide +kernel) ?_
  refine pe_istore_n (j := 2) (ls' := [.ref 147, .int x1, .int 0, pm_dead, pm_dead]) (by decide +kernel) (Nat.le_of_ble_eq_true rfl) rfl ?_
  refine pe_iconstv (n := 0) (v := 0) (by decide +kernel) (by decide +kernel) ?_
  refine pe_istore_n (j := 3) (ls' := [.ref 147, .int x1, .int 0, .int 0, pm_dead]) (by decide +kernel) (Nat.le_of_ble_eq_true rfl) rfl ?_
  refine ML_297_4 hc hI (by omega) (fun y1 y2 u3 gy2 => ?_) 10 0 0 (pm_dead) (by decide +kernel) (by decide +kernel)
  refine pe_iload_n (j := 2) (by decide +kernel) rfl ?_
  exact pe_iret (by decide +kernel) rfl rfl ⟨y1, rfl, ⟨trivial, trivial⟩⟩
end
