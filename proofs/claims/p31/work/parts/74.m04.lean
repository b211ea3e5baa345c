set_option maxRecDepth 100000 in
set_option maxHeartbeats 8000000 in
theorem ML_270_6 {X : pm_X} {d : Nat} {wc : pm_W} {Q : pm_R → Prop} {f : Nat → Int32} {A : Nat → List Int32} {x1 x2 x3 : Int32} (hc : wc.length = 147) (hI : MI f A) (gx1 : (610 ≤ x1.toInt ∧ x1.toInt ≤ 742 ∧ (x1.toInt - 610) % 132 = 0)) (k_58_0 : ∀ (y4 : Int32) (y5 : Int32), (2 ≤ y5.toInt ∧ y5.toInt ≤ 6) → pmE pg X pg_tyl pg_cl (d) 270 58 [.ref 147, .int x1, .int x2, .int x3, .int y4, .int y5] [] (md wc f A) Q) : ∀ (m : Nat) (x4 : Int32) (x5 : Int32), (2 ≤ x5.toInt ∧ x5.toInt ≤ 6) → 6 - x5.toInt < (m : Int) → pmE pg X pg_tyl pg_cl (d) 270 6 [.ref 147, .int x1, .int x2, .int x3, .int x4, .int x5] [] (md wc f A) Q := by
  intro m
  induction m with
  | zero =>
    intro x4 x5 gx5 hm
    exfalso
    have l0 := zi_lo x5
    have u0 := zi_hi x5
    omega
  | succ m ih =>
    intro x4 x5 gx5 hm
    refine pe_iload (j := 5) (by decide +kernel) rfl ?_
    refine pe_aload_n (j := 0) (by decide +kernel) rfl ?_
    refine pe_get (j := 278) (ci := 12) (n := 24) (by decide +kernel) (by decide +kernel) (md_o hc) rfl ?_
    have hr_24_f := hI.1 24
    simp only [MF] at hr_24_f
    refine pz_icmp_ge (off := 46) (t := 58) (by decide +kernel) (by decide) rfl rfl rfl (fun h1 => ?_) (fun h1 => ?_)
    · skip
      exact k_58_0 x4 x5 (by omega)
    · skip
      refine pe_iload (j := 4) (by decide +kernel) rfl ?_
      refine pe_aload_n (j := 0) (by decide +kernel) rfl ?_
      refine pe_get (j := 41) (ci := 12) (n := 21) (by decide +kernel) (by decide +kernel) (md_o hc) rfl ?_
      refine pe_iload (j := 5) (by decide +kernel) rfl ?_
      refine mz_ld158 (by decide +kernel) hc hI rfl (by omega) (by omega) (fun v2 ev2 pv2 => ?_)
      have rv2 : 0 ≤ v2.toInt ∧ v2.toInt ≤ 9 := by have p := pv2; simp only [MP_round] at p; omega
      clear pv2
      refine pe_iload_n (j := 2) (by decide +kernel) rfl ?_
      have lw4 := zi_lo x2
      have uw4 := zi_hi x2
      refine pz_icmp_ne (off := 7) (t := 32) (by decide +kernel) (by decide) rfl rfl rfl (fun h3 => ?_) (fun h3 => ?_)
      · skip
        refine pe_aload_n (j := 0) (by decide +kernel) rfl ?_
        refine pe_get (j := 7) (ci := 12) (n := 0) (by decide +kernel) (by decide +kernel) (md_o hc) rfl ?_
        refine pe_iload_n (j := 1) (by decide +kernel) rfl ?_
        refine pe_bipushv (n := 84) (v := 84) (by decide +kernel) (by decide +kernel) ?_
        refine pz_add (by decide +kernel) rfl kz_84 (by omega) (by omega) (fun z5 hz5 => ?_)
        refine pe_aload_n (j := 0) (by decide +kernel) rfl ?_
        refine pe_get (j := 41) (ci := 12) (n := 21) (by decide +kernel) (by decide +kernel) (md_o hc) rfl ?_
        refine pe_iload (j := 5) (by decide +kernel) rfl ?_
        refine mz_ld158 (by decide +kernel) hc hI rfl (by omega) (by omega) (fun v6 ev6 pv6 => ?_)
        rw [ev6.trans ev2.symm]
        clear pv6 ev6 v6
        refine pz_add (by decide +kernel) hz5 rfl (by omega) (by omega) (fun z7 hz7 => ?_)
        clear hz5
        refine mz_ld148 (by decide +kernel) hc hI hz7 (by omega) (by omega) (fun v8 ev8 pv8 => ?_)
        clear pv8
        clear hz7
        refine pw_add (by decide +kernel) (fun z9 => ?_)
        refine pe_istore (j := 4) (ls' := [.ref 147, .int x1, .int x2, .int x3, .int z9, .int x5]) (by decide +kernel) (Nat.le_of_ble_eq_true rfl) rfl ?_
        refine pz_iinc (j := 5) (n := 1) (by decide +kernel) rfl rfl (by decide +kernel) (by omega) (by omega) (fun z10 hz10 => ?_)
        show pmE pg X pg_tyl pg_cl (d) 270 55 [.ref 147, .int x1, .int x2, .int x3, .int z9, .int z10] [] (md wc f A) _
        refine pe_goto (off := (-49)) (t := 6) (by decide +kernel) (by decide) rfl ?_
        exact ih z9 z10 (by omega) (by omega)
      · skip
        refine pe_iload_n (j := 3) (by decide +kernel) rfl ?_
        refine pe_goto (off := 20) (t := 49) (by decide +kernel) (by decide) rfl ?_
        refine pw_add (by decide +kernel) (fun z11 => ?_)
        refine pe_istore (j := 4) (ls' := [.ref 147, .int x1, .int x2, .int x3, .int z11, .int x5]) (by decide +kernel) (Nat.le_of_ble_eq_true rfl) rfl ?_
        refine pz_iinc (j := 5) (n := 1) (by decide +kernel) rfl rfl (by decide +kernel) (by omega) (by omega) (fun z12 hz12 => ?_)
        show pmE pg X pg_tyl pg_cl (d) 270 55 [.ref 147, .int x1, .int x2, .int x3, .int z11, .int z12] [] (md wc f A) _
        refine pe_goto (off := (-49)) (t := 6) (by decide +kernel) (by decide) rfl ?_
        exact ih z11 z12 (by omega) (by omega)
set_option maxRecDepth 100000 in
set_option maxHeartbeats 8000000 in
theorem MM_270 {X : pm_X} {d : Nat} {wc : pm_W} {f : Nat → Int32} {A : Nat → List Int32} {x1 x2 x3 : Int32} (hc : wc.length = 147) (hI : MI f A) (gx1 : (610 ≤ x1.toInt ∧ x1.toInt ≤ 742 ∧ (x1.toInt - 610) % 132 = 0)) : pmE pg X pg_tyl pg_cl (d) 270 0 (pm_ent (pm_max pg 270) [.ref 147, .int x1, .int x2, .int x3]) [] (md wc f A) (fun q => ∃ (r : Int32), q = (some (.int r), md wc f A, 0, 0) ∧ ((True ∧ True))) := by
  show pmE pg X pg_tyl pg_cl (d) 270 0 [.ref 147, .int x1, .int x2, .int x3, pm_dead, pm_dead] [] (md wc f A) _
  refine pe_iconstv (n := 0) (v := 0) (by decide +kernel) (by decide +kernel) ?_
  refine pe_istore (j := 4) (ls' := [.ref 147, .int x1, .int x2, .int x3, .int 0, pm_dead]) (by decide +kernel) (Nat.le_of_ble_eq_true rfl) rfl ?_
  refine pe_iconstv (n := 2) (v := 2) (by decide +kernel) (by decide +kernel) ?_
  refine pe_istore (j := 5) (ls' := [.ref 147, .int x1, .int x2, .int x3, .int 0, .int 2]) (by decide +kernel) (Nat.le_of_ble_eq_true rfl) rfl ?_
  refine ML_270_6 hc hI (by omega) (fun y1 y2 gy2 => ?_) 5 0 2 (by decide +kernel) (by decide +kernel)
  refine pe_iload (j := 4) (by decide +kernel) rfl ?_
  exact pe_iret (by decide +kernel) rfl rfl ⟨y1, rfl, ⟨trivial, trivial⟩⟩
set_option maxRecDepth 100000 in
set_option maxHeartbeats 8000000 in
theorem ML_271_5 {X : pm_X} {d : Nat} {wc : pm_W} {Q : pm_R → Prop} {f : Nat → Int32} {A : Nat → List Int32} {x1 x2 : Int32} (hc : wc.length = 147) (hI : MI f A) (gx1 : (610 ≤ x1.toInt ∧ x1.toInt ≤ 742 ∧ (x1.toInt - 610) % 132 = 0)) (gx2 : (2 ≤ x2.toInt ∧ x2.toInt ≤ 6)) (k_54_0 : ∀ (i3 : Int64) (y5 : Int32), (6 ≤ y5.toInt ∧ y5.toInt ≤ 6) → pmE pg X pg_tyl pg_cl (d) 271 54 [.ref 147, .int x1, .int x2, .long i3, pm_dead, .int y5] [] (md wc f A) Q) : ∀ (m : Nat) (j3 : Int64) (x5 : Int32), (0 ≤ x5.toInt ∧ x5.toInt ≤ 6) → 6 - x5.toInt < (m : Int) → pmE pg X pg_tyl pg_cl (d) 271 5 [.ref 147, .int x1, .int x2, .long j3, pm_dead, .int x5] [] (md wc f A) Q := by
  intro m
  induction m with
  | zero =>
    intro j3 x5 gx5 hm
    exfalso
    have l0 := zi_lo x5
    have u0 := zi_hi x5
    omega
  | succ m ih =>
    intro j3 x5 gx5 hm
    refine pe_iload (j := 5) (by decide +kernel) rfl ?_
    refine pe_bipushv (n := 6) (v := 6) (by decide +kernel) (by decide +kernel) ?_
    refine pz_icmp_ge (off := 45) (t := 54) (by decide +kernel) (by decide) rfl rfl kz_6 (fun h1 => ?_) (fun h1 => ?_)
    · skip
      exact k_54_0 j3 x5 (by omega)
    · skip
      refine pe_lload_n (j := 3) (by decide +kernel) rfl ?_
      refine pe_iload (j := 5) (by decide +kernel) rfl ?_
      refine pe_iload_n (j := 2) (by decide +kernel) rfl ?_
      refine pz_icmp_ge (off := 27) (t := 43) (by decide +kernel) (by decide) rfl rfl rfl (fun h2 => ?_) (fun h2 => ?_)
      · skip
        refine pw_ldc2 (j := 281) (v := 100) (by decide +kernel) (by decide +kernel) (fun l3 => ?_)
        refine pw_lmul (by decide +kernel) (fun l4 => ?_)
        refine pe_lstore_n (j := 3) (ls' := [.ref 147, .int x1, .int x2, .long l4, pm_dead, .int x5]) (by decide +kernel) (Nat.le_of_ble_eq_true rfl) rfl ?_
        refine pz_iinc (j := 5) (n := 1) (by decide +kernel) rfl rfl (by decide +kernel) (by omega) (by omega) (fun z5 hz5 => ?_)
        show pmE pg X pg_tyl pg_cl (d) 271 51 [.ref 147, .int x1, .int x2, .long l4, pm_dead, .int z5] [] (md wc f A) _
        refine pe_goto (off := (-46)) (t := 5) (by decide +kernel) (by decide) rfl ?_
        exact ih l4 z5 (by omega) (by omega)
      · skip
        refine pe_bipushv (n := 100) (v := 100) (by decide +kernel) (by decide +kernel) ?_
        refine pe_aload_n (j := 0) (by decide +kernel) rfl ?_
        refine pe_get (j := 7) (ci := 12) (n := 0) (by decide +kernel) (by decide +kernel) (md_o hc) rfl ?_
        refine pe_iload_n (j := 1) (by decide +kernel) rfl ?_
        refine pe_bipushv (n := 93) (v := 93) (by decide +kernel) (by decide +kernel) ?_
        refine pz_add (by decide +kernel) rfl kz_93 (by omega) (by omega) (fun z6 hz6 => ?_)
        refine pe_aload_n (j := 0) (by decide +kernel) rfl ?_
        refine pe_get (j := 41) (ci := 12) (n := 21) (by decide +kernel) (by decide +kernel) (md_o hc) rfl ?_
        refine pe_iload (j := 5) (by decide +kernel) rfl ?_
        refine mz_ld158 (by decide +kernel) hc hI rfl (by omega) (by omega) (fun v7 ev7 pv7 => ?_)
        have rv7 : 0 ≤ v7.toInt ∧ v7.toInt ≤ 9 := by have p := pv7; simp only [MP_round] at p; omega
        clear pv7
        refine pz_add (by decide +kernel) hz6 rfl (by omega) (by omega) (fun z8 hz8 => ?_)
        clear hz6
        refine mz_ld148 (by decide +kernel) hc hI hz8 (by omega) (by omega) (fun v9 ev9 pv9 => ?_)
        clear pv9
        clear hz8
        refine pw_sub (by decide +kernel) (fun z10 => ?_)
        refine pw_i2l (by decide +kernel) (fun l11 => ?_)
        refine pe_goto (off := 6) (t := 46) (by decide +kernel) (by decide) rfl ?_
        refine pw_lmul (by decide +kernel) (fun l12 => ?_)
        refine pe_lstore_n (j := 3) (ls' := [.ref 147, .int x1, .int x2, .long l12, pm_dead, .int x5]) (by decide +kernel) (Nat.le_of_ble_eq_true rfl) rfl ?_
        refine pz_iinc (j := 5) (n := 1) (by decide +kernel) rfl rfl (by decide +kernel) (by omega) (by omega) (fun z13 hz13 => ?_)
        show pmE pg X pg_tyl pg_cl (d) 271 51 [.ref 147, .int x1, .int x2, .long l12, pm_dead, .int z13] [] (md wc f A) _
        refine pe_goto (off := (-46)) (t := 5) (by decide +kernel) (by decide) rfl ?_
        exact ih l12 z13 (by omega) (by omega)
set_option maxRecDepth 100000 in
set_option maxHeartbeats 8000000 in
theorem MM_271 {X : pm_X} {d : Nat} {wc : pm_W} {f : Nat → Int32} {A : Nat → List Int32} {x1 x2 : Int32} (hc : wc.length = 147) (hI : MI f A) (gx1 : (610 ≤ x1.toInt ∧ x1.toInt ≤ 742 ∧ (x1.toInt - 610) % 132 = 0)) (gx2 : (2 ≤ x2.toInt ∧ x2.toInt ≤ 6)) : pmE pg X pg_tyl pg_cl (d) 271 0 (pm_ent (pm_max pg 271) [.ref 147, .int x1, .int x2]) [] (md wc f A) (fun q => ∃ (l : Int64), q = (some (.long l), md wc f A, 0, 0) ∧ ((True))) := by
  show pmE pg X pg_tyl pg_cl (d) 271 0 [.ref 147, .int x1, .int x2, pm_dead, pm_dead, pm_dead] [] (md wc f A) _
  refine pw_lconst (n := 1) (by decide +kernel) (fun l1 => ?_)
  refine pe_lstore_n (j := 3) (ls' := [.ref 147, .int x1, .int x2, .long l1, pm_dead, pm_dead]) (by decide +kernel) (Nat.le_of_ble_eq_true rfl) rfl ?_
  refine pe_iconstv (n := 0) (v := 0) (by decide +kernel) (by decide +kernel) ?_
  refine pe_istore (j := 5) (ls' := [.ref 147, .int x1, .int x2, .long l1, pm_dead, .int 0]) (by decide +kernel) (Nat.le_of_ble_eq_true rfl) rfl ?_
  refine ML_271_5 hc hI (by omega) (by omega) (fun l2 y3 gy3 => ?_) 7 l1 0 (by decide +kernel) (by decide +kernel)
  refine pe_lload_n (j := 3) (by decide +kernel) rfl ?_
  exact pe_lret (by decide +kernel) rfl ⟨l2, rfl, trivial⟩
set_option maxRecDepth 100000 in
set_option maxHeartbeats 8000000 in
theorem ML_277_37 {X : pm_X} {d : Nat} {wc : pm_W} {Q : pm_R → Prop} {f : Nat → Int32} {A0 : Nat → List Int32} (hc : wc.length = 147) (k_56_0 : ∀ (A' : Nat → List Int32) (y1 : Int32), MI f A' → (∀ k : Nat, k ≠ 163 → A' k = A0 k) → (10 ≤ y1.toInt ∧ y1.toInt ≤ 10) → pmE pg X pg_tyl pg_cl (d) 277 56 [.ref 147, .int y1] [] (md wc f A') Q) : ∀ (m : Nat) (A : Nat → List Int32) (x1 : Int32), MI f A → (∀ k : Nat, k ≠ 163 → A k = A0 k) → (0 ≤ x1.toInt ∧ x1.toInt ≤ 10) → 10 - x1.toInt < (m : Int) → pmE pg X pg_tyl pg_cl (d) 277 37 [.ref 147, .int x1] [] (md wc f A) Q := by
  intro m
  induction m with
  | zero =>
    intro A x1 hI hF gx1 hm
    exfalso
    have l0 := zi_lo x1
    have u0 := zi_hi x1
    omega
  | succ m ih =>
    intro A x1 hI hF gx1 hm
    refine pe_iload_n (j := 1) (by decide +kernel) rfl ?_
    refine pe_bipushv (n := 10) (v := 10) (by decide +kernel) (by decide +kernel) ?_
    refine pz_icmp_ge (off := 16) (t := 56) (by decide +kernel) (by decide) rfl rfl kz_10 (fun h1 => ?_) (fun h1 => ?_)
    · skip
      exact k_56_0 A x1 hI (fun k n163 => (hF k n163)) (by omega)
    · skip
      refine pe_aload_n (j := 0) (by decide +kernel) rfl ?_
      refine pe_get (j := 56) (ci := 12) (n := 28) (by decide +kernel) (by decide +kernel) (md_o hc) rfl ?_
      refine pe_iload_n (j := 1) (by decide +kernel) rfl ?_
      refine pe_iconstv (n := 0) (v := 0) (by decide +kernel) (by decide +kernel) ?_
      refine mz_st163 (by decide +kernel) hc hI rfl (by omega) (by omega) (fun A2 eA2 hIA2 => ?_)
      refine pz_iinc (j := 1) (n := 1) (by decide +kernel) rfl rfl (by decide +kernel) (by omega) (by omega) (fun z3 hz3 => ?_)
      show pmE pg X pg_tyl pg_cl (d) 277 53 [.ref 147, .int z3] [] (md wc f A2) _
      refine pe_goto (off := (-16)) (t := 37) (by decide +kernel) (by decide) rfl ?_
      exact ih A2 z3 hIA2 (fun k n163 => (upa_fr eA2 n163).trans ((hF k n163))) (by omega) (by omega)
set_option maxRecDepth 100000 in
set_option maxHeartbeats 8000000 in
theorem ML_277_2 {X : pm_X} {d : Nat} {wc : pm_W} {Q : pm_R → Prop} {f : Nat → Int32} {A0 : Nat → List Int32} (hc : wc.length = 147) (k_35_0 : ∀ (A' : Nat → List Int32) (y1 : Int32), MI f A' → (∀ k : Nat, k ≠ 160 → k ≠ 161 → k ≠ 162 → A' k = A0 k) → (100 ≤ y1.toInt ∧ y1.toInt ≤ 100) → pmE pg X pg_tyl pg_cl (d) 277 35 [.ref 147, .int y1] [] (md wc f A') Q) : ∀ (m : Nat) (A : Nat → List Int32) (x1 : Int32), MI f A → (∀ k : Nat, k ≠ 160 → k ≠ 161 → k ≠ 162 → A k = A0 k) → (0 ≤ x1.toInt ∧ x1.toInt ≤ 100) → 100 - x1.toInt < (m : Int) → pmE pg X pg_tyl pg_cl (d) 277 2 [.ref 147, .int x1] [] (md wc f A) Q := by
  intro m
  induction m with
  | zero =>
    intro A x1 hI hF gx1 hm
    exfalso
    have l0 := zi_lo x1
    have u0 := zi_hi x1
    omega
  | succ m ih =>
    intro A x1 hI hF gx1 hm
    refine pe_iload_n (j := 1) (by decide +kernel) rfl ?_
    refine pe_bipushv (n := 100) (v := 100) (by decide +kernel) (by decide +kernel) ?_
    refine pz_icmp_ge (off := 30) (t := 35) (by decide +kernel) (by decide) rfl rfl kz_100 (fun h1 => ?_) (fun h1 => ?_)
    · skip
      exact k_35_0 A x1 hI (fun k n160 n161 n162 => (hF k n160 n161 n162)) (by omega)
    · skip
      refine pe_aload_n (j := 0) (by decide +kernel) rfl ?_
      refine pe_get (j := 47) (ci := 12) (n := 25) (by decide +kernel) (by decide +kernel) (md_o hc) rfl ?_
      refine pe_iload_n (j := 1) (by decide +kernel) rfl ?_
      refine pe_iconstv (n := 0) (v := 0) (by decide +kernel) (by decide +kernel) ?_
      refine mz_st160 (by decide +kernel) hc hI rfl (by omega) (by omega) (fun A2 eA2 hIA2 => ?_)
      refine pe_aload_n (j := 0) (by decide +kernel) rfl ?_
      refine pe_get (j := 50) (ci := 12) (n := 26) (by decide +kernel) (by decide +kernel) (md_o hc) rfl ?_
      refine pe_iload_n (j := 1) (by decide +kernel) rfl ?_
      refine pe_iconstv (n := 0) (v := 0) (by decide +kernel) (by decide +kernel) ?_
      refine mz_st161 (by decide +kernel) hc hIA2 rfl (by omega) (by omega) (fun A3 eA3 hIA3 => ?_)
      refine pe_aload_n (j := 0) (by decide +kernel) rfl ?_
      refine pe_get (j := 53) (ci := 12) (n := 27) (by decide +kernel) (by decide +kernel) (md_o hc) rfl ?_
      refine pe_iload_n (j := 1) (by decide +kernel) rfl ?_
      refine pe_iconstv (n := 0) (v := 0) (by decide +kernel) (by decide +kernel) ?_
      refine mz_st162 (by decide +kernel) hc hIA3 rfl (by omega) (by omega) (fun A4 eA4 hIA4 => ?_)
      refine pz_iinc (j := 1) (n := 1) (by decide +kernel) rfl rfl (by decide +kernel) (by omega) (by omega) (fun z5 hz5 => ?_)
      show pmE pg X pg_tyl pg_cl (d) 277 32 [.ref 147, .int z5] [] (md wc f A4) _
      refine pe_goto (off := (-30)) (t := 2) (by decide +kernel) (by decide) rfl ?_
      exact ih A4 z5 hIA4 (fun k n160 n161 n162 => (upa_fr eA4 n162).trans ((upa_fr eA3 n161).trans ((upa_fr eA2 n160).trans ((hF k n160 n161 n162))))) (by omega) (by omega)
set_option maxRecDepth 100000 in
set_option maxHeartbeats 8000000 in
theorem MM_277 {X : pm_X} {d : Nat} {wc : pm_W} {f : Nat → Int32} {A : Nat → List Int32} (hc : wc.length = 147) (hI : MI f A) : pmE pg X pg_tyl pg_cl (d) 277 0 (pm_ent (pm_max pg 277) [.ref 147]) [] (md wc f A) (fun q => ∃ (A' : Nat → List Int32), q = (none, md wc f A', 0, 0) ∧ MI f A' ∧ (∀ k : Nat, k ≠ 160 → k ≠ 161 → k ≠ 162 → k ≠ 163 → A' k = A k) ∧ ((True))) := by
  show pmE pg X pg_tyl pg_cl (d) 277 0 [.ref 147, pm_dead] [] (md wc f A) _
  refine pe_iconstv (n := 0) (v := 0) (by decide +kernel) (by decide +kernel) ?_
  refine pe_istore_n (j := 1) (ls' := [.ref 147, .int 0]) (by decide +kernel) (Nat.le_of_ble_eq_true rfl) rfl ?_
  refine ML_277_2 hc (fun A1 y3 hIy2 hFhIy2 gy3 => ?_) 101 A 0 hI (fun k _ _ _ => rfl) (by decide +kernel) (by decide +kernel)
  refine pe_iconstv (n := 0) (v := 0) (by decide +kernel) (by decide +kernel) ?_
  refine pe_istore_n (j := 1) (ls' := [.ref 147, .int 0]) (by decide +kernel) (Nat.le_of_ble_eq_true rfl) rfl ?_
  refine ML_277_37 hc (fun A4 y6 hIy5 hFhIy5 gy6 => ?_) 11 A1 0 hIy2 (fun k _ => rfl) (by decide +kernel) (by decide +kernel)
  exact pe_vret (by decide +kernel) rfl ⟨A4, rfl, hIy5, (fun k n160 n161 n162 n163 => ((hFhIy5 k n163)).trans ((hFhIy2 k n160 n161 n162))), trivial⟩
set_option maxRecDepth 100000 in
set_option maxHeartbeats 8000000 in
theorem MM_281 {X : pm_X} {d : Nat} {wc : pm_W} {f : Nat → Int32} {A : Nat → List Int32} {x1 x2 x3 : Int32} (hc : wc.length = 147) (hI : MI f A) (gx1 : (0 ≤ x1.toInt ∧ x1.toInt ≤ 9)) (gx2 : (0 ≤ x2.toInt ∧ x2.toInt ≤ 9)) : pmE pg X pg_tyl pg_cl (d) 281 0 (pm_ent (pm_max pg 281) [.ref 147, .int x1, .int x2, .int x3]) [] (md wc f A) (fun q => ∃ (A' : Nat → List Int32), q = (none, md wc f A', 0, 0) ∧ MI f A' ∧ (∀ k : Nat, k ≠ 162 → A' k = A k) ∧ ((True))) := by
  show pmE pg X pg_tyl pg_cl (d) 281 0 [.ref 147, .int x1, .int x2, .int x3, pm_dead] [] (md wc f A) _
  refine pe_aload_n (j := 0) (by decide +kernel) rfl ?_
  refine pe_get (j := 53) (ci := 12) (n := 27) (by decide +kernel) (by decide +kernel) (md_o hc) rfl ?_
  refine pe_bipushv (n := 10) (v := 10) (by decide +kernel) (by decide +kernel) ?_
  refine pe_iload_n (j := 2) (by decide +kernel) rfl ?_
  refine pz_mul (by decide +kernel) kz_10 rfl (by omega) (by omega) (fun z1 hz1 => ?_)
  refine pe_iload_n (j := 1) (by decide +kernel) rfl ?_
  refine pz_add (by decide +kernel) hz1 rfl (by omega) (by omega) (fun z2 hz2 => ?_)
  clear hz1
  refine mz_ld162 (by decide +kernel) hc hI hz2 (by omega) (by omega) (fun v3 ev3 => ?_)
  clear hz2
  refine pe_iload_n (j := 3) (by decide +kernel) rfl ?_
  have lw5 := zi_lo v3
  have uw5 := zi_hi v3
  have lw6 := zi_lo x3
  have uw6 := zi_hi x3
  refine pz_icmp_ge (off := 17) (t := 29) (by decide +kernel) (by decide) rfl rfl rfl (fun h4 => ?_) (fun h4 => ?_)
  · skip
    refine pe_iload_n (j := 3) (by decide +kernel) rfl ?_
    refine pe_istore (j := 4) (ls' := [.ref 147, .int x1, .int x2, .int x3, .int x3]) (by decide +kernel) (Nat.le_of_ble_eq_true rfl) rfl ?_
    refine pe_aload_n (j := 0) (by decide +kernel) rfl ?_
    refine pe_get (j := 53) (ci := 12) (n := 27) (by decide +kernel) (by decide +kernel) (md_o hc) rfl ?_
    refine pe_bipushv (n := 10) (v := 10) (by decide +kernel) (by decide +kernel) ?_
    refine pe_iload_n (j := 2) (by decide +kernel) rfl ?_
    refine pz_mul (by decide +kernel) kz_10 rfl (by omega) (by omega) (fun z7 hz7 => ?_)
    refine pe_iload_n (j := 1) (by decide +kernel) rfl ?_
    refine pz_add (by decide +kernel) hz7 rfl (by omega) (by omega) (fun z8 hz8 => ?_)
    clear hz7
    refine pe_dup2 (by decide +kernel) ⟨rfl, rfl⟩ ?_
    refine mz_ld162 (by decide +kernel) hc hI hz8 (by omega) (by omega) (fun v9 ev9 => ?_)
    rw [ev9.trans ev3.symm]
    clear ev9 v9
    refine pe_iload (j := 4) (by decide +kernel) rfl ?_
    refine pw_sub (by decide +kernel) (fun z10 => ?_)
    refine mz_st162 (by decide +kernel) hc hI hz8 (by omega) (by omega) (fun A11 eA11 hIA11 => ?_)
    refine pe_aload_n (j := 0) (by decide +kernel) rfl ?_
    refine pe_get (j := 53) (ci := 12) (n := 27) (by decide +kernel) (by decide +kernel) (md_o hc) rfl ?_
    refine pe_bipushv (n := 10) (v := 10) (by decide +kernel) (by decide +kernel) ?_
    refine pe_iload_n (j := 1) (by decide +kernel) rfl ?_
    refine pz_mul (by decide +kernel) kz_10 rfl (by omega) (by omega) (fun z12 hz12 => ?_)
    refine pe_iload_n (j := 2) (by decide +kernel) rfl ?_
    refine pz_add (by decide +kernel) hz12 rfl (by omega) (by omega) (fun z13 hz13 => ?_)
    clear hz12
    refine pe_dup2 (by decide +kernel) ⟨rfl, rfl⟩ ?_
    refine mz_ld162 (by decide +kernel) hc hIA11 hz13 (by omega) (by omega) (fun v14 ev14 => ?_)
    refine pe_iload_n (j := 3) (by decide +kernel) rfl ?_
    refine pe_iload (j := 4) (by decide +kernel) rfl ?_
    refine pz_sub (by decide +kernel) rfl rfl (by omega) (by omega) (fun z15 hz15 => ?_)
    have lw17 := zi_lo v14
    have uw17 := zi_hi v14
    refine pz_add (by decide +kernel) rfl hz15 (by omega) (by omega) (fun z16 hz16 => ?_)
    clear hz15
    refine mz_st162 (by decide +kernel) hc hIA11 hz13 (by omega) (by omega) (fun A18 eA18 hIA18 => ?_)
    exact pe_vret (by decide +kernel) rfl ⟨A18, rfl, hIA18, (fun k n162 => (upa_fr eA18 n162).trans (upa_fr eA11 n162)), trivial⟩
  · skip
    refine pe_aload_n (j := 0) (by decide +kernel) rfl ?_
    refine pe_get (j := 53) (ci := 12) (n := 27) (by decide +kernel) (by decide +kernel) (md_o hc) rfl ?_
    refine pe_bipushv (n := 10) (v := 10) (by decide +kernel) (by decide +kernel) ?_
    refine pe_iload_n (j := 2) (by decide +kernel) rfl ?_
    refine pz_mul (by decide +kernel) kz_10 rfl (by omega) (by omega) (fun z19 hz19 => ?_)
    refine pe_iload_n (j := 1) (by decide +kernel) rfl ?_
    refine pz_add (by decide +kernel) hz19 rfl (by omega) (by omega) (fun z20 hz20 => ?_)
    clear hz19
    refine mz_ld162 (by decide +kernel) hc hI hz20 (by omega) (by omega) (fun v21 ev21 => ?_)
    rw [ev21.trans ev3.symm]
    clear ev21 v21
    clear hz20
    refine pe_goto (off := 4) (t := 30) (by decide +kernel) (by decide) rfl ?_
    refine pe_istore (j := 4) (ls' := [.ref 147, .int x1, .int x2, .int x3, .int v3]) (by decide +kernel) (Nat.le_of_ble_eq_true rfl) rfl ?_
    refine pe_aload_n (j := 0) (by decide +kernel) rfl ?_
    refine pe_get (j := 53) (ci := 12) (n := 27) (by decide +kernel) (by decide +kernel) (md_o hc) rfl ?_
    refine pe_bipushv (n := 10) (v := 10) (by decide +kernel) (by decide +kernel) ?_
    refine pe_iload_n (j := 2) (by decide +kernel) rfl ?_
    refine pz_mul (by decide +kernel) kz_10 rfl (by omega) (by omega) (fun z22 hz22 => ?_)
    refine pe_iload_n (j := 1) (by decide +kernel) rfl ?_
    refine pz_add (by decide +kernel) hz22 rfl (by omega) (by omega) (fun z23 hz23 => ?_)
    clear hz22
    refine pe_dup2 (by decide +kernel) ⟨rfl, rfl⟩ ?_
    refine mz_ld162 (by decide +kernel) hc hI hz23 (by omega) (by omega) (fun v24 ev24 => ?_)
    rw [ev24.trans ev3.symm]
    clear ev24 v24
    refine pe_iload (j := 4) (by decide +kernel) rfl ?_
    refine pz_sub (by decide +kernel) rfl rfl (by omega) (by omega) (fun z25 hz25 => ?_)
    refine mz_st162 (by decide +kernel) hc hI hz23 (by omega) (by omega) (fun A26 eA26 hIA26 => ?_)
    refine pe_aload_n (j := 0) (by decide +kernel) rfl ?_
    refine pe_get (j := 53) (ci := 12) (n := 27) (by decide +kernel) (by decide +kernel) (md_o hc) rfl ?_
    refine pe_bipushv (n := 10) (v := 10) (by decide +kernel) (by decide +kernel) ?_
    refine pe_iload_n (j := 1) (by decide +kernel) rfl ?_
    refine pz_mul (by decide +kernel) kz_10 rfl (by omega) (by omega) (fun z27 hz27 => ?_)
    refine pe_iload_n (j := 2) (by decide +kernel) rfl ?_
    refine pz_add (by decide +kernel) hz27 rfl (by omega) (by omega) (fun z28 hz28 => ?_)
    clear hz27
    refine pe_dup2 (by decide +kernel) ⟨rfl, rfl⟩ ?_
    refine mz_ld162 (by decide +kernel) hc hIA26 hz28 (by omega) (by omega) (fun v29 ev29 => ?_)
    refine pe_iload_n (j := 3) (by decide +kernel) rfl ?_
    refine pe_iload (j := 4) (by decide +kernel) rfl ?_
    refine pw_sub (by decide +kernel) (fun z30 => ?_)
    refine pw_add (by decide +kernel) (fun z31 => ?_)
    refine mz_st162 (by decide +kernel) hc hIA26 hz28 (by omega) (by omega) (fun A32 eA32 hIA32 => ?_)
    exact pe_vret (by decide +kernel) rfl ⟨A32, rfl, hIA32, (fun k n162 => (upa_fr eA32 n162).trans (upa_fr eA26 n162)), trivial⟩
set_option maxRecDepth 100000 in
set_option maxHeartbeats 8000000 in
theorem ML_285_6 {X : pm_X} {d : Nat} {wc : pm_W} {Q : pm_R → Prop} {f : Nat → Int32} {A0 : Nat → List Int32} {x1 x2 : Int32} (hc : wc.length = 147) (gx1 : (610 ≤ x1.toInt ∧ x1.toInt ≤ 742 ∧ (x1.toInt - 610) % 132 = 0)) (k_110_0 : ∀ (A' : Nat → List Int32) (y3 : Int32) (v4 : Value) (v5 : Value), MI f A' → (∀ k : Nat, k ≠ 160 → k ≠ 163 → A' k = A0 k) → (0 ≤ y3.toInt ∧ y3.toInt ≤ 7) → pmE pg X pg_tyl pg_cl (d + 1) 285 110 [.ref 147, .int x1, .int x2, .int y3, v4, v5] [] (md wc f A') Q) : ∀ (m : Nat) (A : Nat → List Int32) (x3 : Int32) (u4 : Value) (u5 : Value), MI f A → (∀ k : Nat, k ≠ 160 → k ≠ 163 → A k = A0 k) → (0 ≤ x3.toInt ∧ x3.toInt ≤ 7) → 7 - x3.toInt < (m : Int) → pmE pg X pg_tyl pg_cl (d + 1) 285 6 [.ref 147, .int x1, .int x2, .int x3, u4, u5] [] (md wc f A) Q := by
  intro m
  induction m with
  | zero =>
    intro A x3 u4 u5 hI hF gx3 hm
    exfalso
    have l0 := zi_lo x3
    have u0 := zi_hi x3
    omega
  | succ m ih =>
    intro A x3 u4 u5 hI hF gx3 hm
    refine pe_iload_n (j := 3) (by decide +kernel) rfl ?_
    refine pe_aload_n (j := 0) (by decide +kernel) rfl ?_
    refine pe_get (j := 7) (ci := 12) (n := 0) (by decide +kernel) (by decide +kernel) (md_o hc) rfl ?_
    refine pe_iload_n (j := 1) (by decide +kernel) rfl ?_
    refine pe_iconstv (n := 1) (v := 1) (by decide +kernel) (by decide +kernel) ?_
    refine pz_add (by decide +kernel) rfl kz_1 (by omega) (by omega) (fun z1 hz1 => ?_)
    refine mz_ld148 (by decide +kernel) hc hI hz1 (by omega) (by omega) (fun v2 ev2 pv2 => ?_)
    rw [show A 148 = A0 148 from (hF 148 (by decide) (by decide))] at ev2
    have rv2 : 0 ≤ v2.toInt ∧ v2.toInt ≤ 7 := MT_wants pv2 (by omega)
    clear pv2
    clear hz1
    refine pz_icmp_ge (off := 95) (t := 110) (by decide +kernel) (by decide) rfl rfl rfl (fun h3 => ?_) (fun h3 => ?_)
    · skip
      exact k_110_0 A x3 (u4) (u5) hI (fun k n160 n163 => (hF k n160 n163)) (by omega)
    · skip
      refine pe_iload_n (j := 2) (by decide +kernel) rfl ?_
      refine pe_iload_n (j := 3) (by decide +kernel) rfl ?_
      refine pw_shr (by decide +kernel) (fun z4 => ?_)
      refine pe_iconstv (n := 1) (v := 1) (by decide +kernel) (by decide +kernel) ?_
      refine pz_and1 (by decide +kernel) (fun z5 hz5 => ?_)
      refine pz_if_ne (off := 6) (t := 29) (by decide +kernel) (by decide) rfl rfl (fun h6 => ?_) (fun h6 => ?_)
      · skip
        refine pe_aload_n (j := 0) (by decide +kernel) rfl ?_
        refine pe_iload_n (j := 1) (by decide +kernel) rfl ?_
        refine pe_iload_n (j := 3) (by decide +kernel) rfl ?_
        refine pe_iconstv (n := 0) (v := 0) (by decide +kernel) (by decide +kernel) ?_
        refine pi_V (j := 172) (mj := 224) (by decide +kernel) (cll_V (args := [.int 0, .int x3, .int x1]) (n := 3) (by decide +kernel) rfl rfl (md_o hc) (by decide +kernel) (Nat.le_of_ble_eq_true rfl) (Nat.le_of_ble_eq_true rfl)) ?_
        show pmE pg X pg_tyl pg_cl (d) 224 0 [.ref 147, .int x1, .int x3, .int 0] [] (md wc f A) _
        refine pe_aload_n (j := 0) (by decide +kernel) rfl ?_
        refine pe_get (j := 7) (ci := 12) (n := 0) (by decide +kernel) (by decide +kernel) (md_o hc) rfl ?_
        refine pe_iload_n (j := 1) (by decide +kernel) rfl ?_
        refine pe_bipushv (n := 102) (v := 102) (by decide +kernel) (by decide +kernel) ?_
        refine pz_add (by decide +kernel) rfl kz_102 (by omega) (by omega) (fun z7 hz7 => ?_)
        refine pe_iconstv (n := 4) (v := 4) (by decide +kernel) (by decide +kernel) ?_
        refine pe_iload_n (j := 2) (by decide +kernel) rfl ?_
        refine pz_mul (by decide +kernel) kz_4 rfl (by omega) (by omega) (fun z8 hz8 => ?_)
        refine pz_add (by decide +kernel) hz7 hz8 (by omega) (by omega) (fun z9 hz9 => ?_)
        clear hz7 hz8
        refine pe_iload_n (j := 3) (by decide +kernel) rfl ?_
        refine pz_add (by decide +kernel) hz9 kz_0 (by omega) (by omega) (fun z10 hz10 => ?_)
        clear hz9
        refine mz_ld148 (by decide +kernel) hc hI hz10 (by omega) (by omega) (fun v11 ev11 pv11 => ?_)
        rw [show A 148 = A0 148 from (hF 148 (by decide) (by decide))] at ev11
        have rv11 : 0 ≤ v11.toInt ∧ v11.toInt ≤ 8 := MT_want pv11 (by omega)
        clear pv11
        clear hz10
        refine pe_iret (by decide +kernel) rfl rfl ⟨rfl, rfl, ?_⟩
        show pmE pg X pg_tyl pg_cl (d + 1) 285 36 [.ref 147, .int x1, .int x2, .int x3, u4, u5] [.int v11] (md wc f A) _
        refine pe_istore (j := 4) (ls' := [.ref 147, .int x1, .int x2, .int x3, .int v11, u5]) (by decide +kernel) (Nat.le_of_ble_eq_true rfl) rfl ?_
        refine pe_aload_n (j := 0) (by decide +kernel) rfl ?_
        refine pe_iload_n (j := 1) (by decide +kernel) rfl ?_
        refine pe_iload_n (j := 3) (by decide +kernel) rfl ?_
        refine pe_iconstv (n := 1) (v := 1) (by decide +kernel) (by decide +kernel) ?_
        refine pi_V (j := 172) (mj := 224) (by decide +kernel) (cll_V (args := [.int 1, .int x3, .int x1]) (n := 3) (by decide +kernel) rfl rfl (md_o hc) (by decide +kernel) (Nat.le_of_ble_eq_true rfl) (Nat.le_of_ble_eq_true rfl)) ?_
        show pmE pg X pg_tyl pg_cl (d) 224 0 [.ref 147, .int x1, .int x3, .int 1] [] (md wc f A) _
        refine pe_aload_n (j := 0) (by decide +kernel) rfl ?_
        refine pe_get (j := 7) (ci := 12) (n := 0) (by decide +kernel) (by decide +kernel) (md_o hc) rfl ?_
        refine pe_iload_n (j := 1) (by decide +kernel) rfl ?_
        refine pe_bipushv (n := 102) (v := 102) (by decide +kernel) (by decide +kernel) ?_
        refine pz_add (by decide +kernel) rfl kz_102 (by omega) (by omega) (fun z12 hz12 => ?_)
        refine pe_iconstv (n := 4) (v := 4) (by decide +kernel) (by decide +kernel) ?_
        refine pe_iload_n (j := 2) (by decide +kernel) rfl ?_
        refine pz_mul (by decide +kernel) kz_4 rfl (by omega) (by omega) (fun z13 hz13 => ?_)
        refine pz_add (by decide +kernel) hz12 hz13 (by omega) (by omega) (fun z14 hz14 => ?_)
        clear hz12 hz13
        refine pe_iload_n (j := 3) (by decide +kernel) rfl ?_
        refine pz_add (by decide +kernel) hz14 kz_1 (by omega) (by omega) (fun z15 hz15 => ?_)
        clear hz14
        refine mz_ld148 (by decide +kernel) hc hI hz15 (by omega) (by omega) (fun v16 ev16 pv16 => ?_)
        rw [show A 148 = A0 148 from (hF 148 (by decide) (by decide))] at ev16
        have rv16 : 0 ≤ v16.toInt ∧ v16.toInt ≤ 8 := MT_want pv16 (by omega)
        clear pv16
        clear hz15
        refine pe_iret (by decide +kernel) rfl rfl ⟨rfl, rfl, ?_⟩
        show pmE pg X pg_tyl pg_cl (d + 1) 285 45 [.ref 147, .int x1, .int x2, .int x3, .int v11, u5] [.int v16] (md wc f A) _
        refine pe_istore (j := 5) (ls' := [.ref 147, .int x1, .int x2, .int x3, .int v11, .int v16]) (by decide +kernel) (Nat.le_of_ble_eq_true rfl) rfl ?_
        refine pe_aload_n (j := 0) (by decide +kernel) rfl ?_
        refine pe_get (j := 47) (ci := 12) (n := 25) (by decide +kernel) (by decide +kernel) (md_o hc) rfl ?_
        refine pe_bipushv (n := 10) (v := 10) (by decide +kernel) (by decide +kernel) ?_
        refine pe_iload (j := 4) (by decide +kernel) rfl ?_
        refine pz_mul (by decide +kernel) kz_10 rfl (by omega) (by omega) (fun z17 hz17 => ?_)
        refine pe_iload (j := 5) (by decide +kernel) rfl ?_
        refine pz_add (by decide +kernel) hz17 rfl (by omega) (by omega) (fun z18 hz18 => ?_)
        clear hz17
        refine pe_dup2 (by decide +kernel) ⟨rfl, rfl⟩ ?_
        refine mz_ld160 (by decide +kernel) hc hI hz18 (by omega) (by omega) (fun v19 ev19 => ?_)
        refine pe_aload_n (j := 0) (by decide +kernel) rfl ?_
        refine pe_iload_n (j := 1) (by decide +kernel) rfl ?_
        refine pe_iload_n (j := 3) (by decide +kernel) rfl ?_
        refine pe_iconstv (n := 2) (v := 2) (by decide +kernel) (by decide +kernel) ?_
        refine pi_V (j := 172) (mj := 224) (by decide +kernel) (cll_V (args := [.int 2, .int x3, .int x1]) (n := 3) (by decide +kernel) rfl rfl (md_o hc) (by decide +kernel) (Nat.le_of_ble_eq_true rfl) (Nat.le_of_ble_eq_true rfl)) ?_
        show pmE pg X pg_tyl pg_cl (d) 224 0 [.ref 147, .int x1, .int x3, .int 2] [] (md wc f A) _
        refine pe_aload_n (j := 0) (by decide +kernel) rfl ?_
        refine pe_get (j := 7) (ci := 12) (n := 0) (by decide +kernel) (by decide +kernel) (md_o hc) rfl ?_
        refine pe_iload_n (j := 1) (by decide +kernel) rfl ?_
        refine pe_bipushv (n := 102) (v := 102) (by decide +kernel) (by decide +kernel) ?_
        refine pz_add (by decide +kernel) rfl kz_102 (by omega) (by omega) (fun z20 hz20 => ?_)
        refine pe_iconstv (n := 4) (v := 4) (by decide +kernel) (by decide +kernel) ?_
        refine pe_iload_n (j := 2) (by decide +kernel) rfl ?_
        refine pz_mul (by decide +kernel) kz_4 rfl (by omega) (by omega) (fun z21 hz21 => ?_)
        refine pz_add (by decide +kernel) hz20 hz21 (by omega) (by omega) (fun z22 hz22 => ?_)
        clear hz20 hz21
        refine pe_iload_n (j := 3) (by decide +kernel) rfl ?_
        refine pz_add (by decide +kernel) hz22 kz_2 (by omega) (by omega) (fun z23 hz23 => ?_)
        clear hz22
        refine mz_ld148 (by decide +kernel) hc hI hz23 (by omega) (by omega) (fun v24 ev24 pv24 => ?_)
        rw [show A 148 = A0 148 from (hF 148 (by decide) (by decide))] at ev24
        clear pv24
        clear hz23
        refine pe_iret (by decide +kernel) rfl rfl ⟨rfl, rfl, ?_⟩
        show pmE pg X pg_tyl pg_cl (d + 1) 285 68 [.ref 147, .int x1, .int x2, .int x3, .int v11, .int v16] [.int v24, .int v19, .int z18, .ref 160] (md wc f A) _
        refine pw_add (by decide +kernel) (fun z25 => ?_)
        refine mz_st160 (by decide +kernel) hc hI hz18 (by omega) (by omega) (fun A26 eA26 hIA26 => ?_)
        refine pe_aload_n (j := 0) (by decide +kernel) rfl ?_
        refine pe_get (j := 56) (ci := 12) (n := 28) (by decide +kernel) (by decide +kernel) (md_o hc) rfl ?_
        refine pe_iload (j := 4) (by decide +kernel) rfl ?_
        refine pe_dup2 (by decide +kernel) ⟨rfl, rfl⟩ ?_
        refine mz_ld163 (by decide +kernel) hc hIA26 rfl (by omega) (by omega) (fun v27 ev27 => ?_)
        rw [show A26 163 = A 163 from upa_fr eA26 (by decide)] at ev27
        refine pe_aload_n (j := 0) (by decide +kernel) rfl ?_
        refine pe_iload_n (j := 1) (by decide +kernel) rfl ?_
        refine pe_iload_n (j := 3) (by decide +kernel) rfl ?_
        refine pe_iconstv (n := 2) (v := 2) (by decide +kernel) (by decide +kernel) ?_
        refine pi_V (j := 172) (mj := 224) (by decide +kernel) (cll_V (args := [.int 2, .int x3, .int x1]) (n := 3) (by decide +kernel) rfl rfl (md_o hc) (by decide +kernel) (Nat.le_of_ble_eq_true rfl) (Nat.le_of_ble_eq_true rfl)) ?_
        show pmE pg X pg_tyl pg_cl (d) 224 0 [.ref 147, .int x1, .int x3, .int 2] [] (md wc f A26) _
        refine pe_aload_n (j := 0) (by decide +kernel) rfl ?_
        refine pe_get (j := 7) (ci := 12) (n := 0) (by decide +kernel) (by decide +kernel) (md_o hc) rfl ?_
        refine pe_iload_n (j := 1) (by decide +kernel) rfl ?_
        refine pe_bipushv (n := 102) (v := 102) (by decide +kernel) (by decide +kernel) ?_
        refine pz_add (by decide +kernel) rfl kz_102 (by omega) (by omega) (fun z28 hz28 => ?_)
        refine pe_iconstv (n := 4) (v := 4) (by decide +kernel) (by decide +kernel) ?_
        refine pe_iload_n (j := 2) (by decide +kernel) rfl ?_
        refine pz_mul (by decide +kernel) kz_4 rfl (by omega) (by omega) (fun z29 hz29 => ?_)
        refine pz_add (by decide +kernel) hz28 hz29 (by omega) (by omega) (fun z30 hz30 => ?_)
        clear hz28 hz29
        refine pe_iload_n (j := 3) (by decide +kernel) rfl ?_
        refine pz_add (by decide +kernel) hz30 kz_2 (by omega) (by omega) (fun z31 hz31 => ?_)
        clear hz30
        refine mz_ld148 (by decide +kernel) hc hIA26 hz31 (by omega) (by omega) (fun v32 ev32 pv32 => ?_)
        rw [show A26 148 = A0 148 from (upa_fr eA26 (by decide)).trans ((hF 148 (by decide) (by decide)))] at ev32
        rw [ev32.trans ev24.symm]
        clear pv32 ev32 v32
        clear hz31
        refine pe_iret (by decide +kernel) rfl rfl ⟨rfl, rfl, ?_⟩
        show pmE pg X pg_tyl pg_cl (d + 1) 285 85 [.ref 147, .int x1, .int x2, .int x3, .int v11, .int v16] [.int v24, .int v27, .int v11, .ref 163] (md wc f A26) _
        refine pw_sub (by decide +kernel) (fun z33 => ?_)
        refine mz_st163 (by decide +kernel) hc hIA26 rfl (by omega) (by omega) (fun A34 eA34 hIA34 => ?_)
        refine pe_aload_n (j := 0) (by decide +kernel) rfl ?_
        refine pe_get (j := 56) (ci := 12) (n := 28) (by decide +kernel) (by decide +kernel) (md_o hc) rfl ?_
        refine pe_iload (j := 5) (by decide +kernel) rfl ?_
        refine pe_dup2 (by decide +kernel) ⟨rfl, rfl⟩ ?_
        refine mz_ld163 (by decide +kernel) hc hIA34 rfl (by omega) (by omega) (fun v35 ev35 => ?_)
        refine pe_aload_n (j := 0) (by decide +kernel) rfl ?_
        refine pe_iload_n (j := 1) (by decide +kernel) rfl ?_
        refine pe_iload_n (j := 3) (by decide +kernel) rfl ?_
        refine pe_iconstv (n := 2) (v := 2) (by decide +kernel) (by decide +kernel) ?_
        refine pi_V (j := 172) (mj := 224) (by decide +kernel) (cll_V (args := [.int 2, .int x3, .int x1]) (n := 3) (by decide +kernel) rfl rfl (md_o hc) (by decide +kernel) (Nat.le_of_ble_eq_true rfl) (Nat.le_of_ble_eq_true rfl)) ?_
        show pmE pg X pg_tyl pg_cl (d) 224 0 [.ref 147, .int x1, .int x3, .int 2] [] (md wc f A34) _
        refine pe_aload_n (j := 0) (by decide +kernel) rfl ?_
        refine pe_get (j := 7) (ci := 12) (n := 0) (by decide +kernel) (by decide +kernel) (md_o hc) rfl ?_
        refine pe_iload_n (j := 1) (by decide +kernel) rfl ?_
        refine pe_bipushv (n := 102) (v := 102) (by decide +kernel) (by decide +kernel) ?_
        refine pz_add (by decide +kernel) rfl kz_102 (by omega) (by omega) (fun z36 hz36 => ?_)
        refine pe_iconstv (n := 4) (v := 4) (by decide +kernel) (by decide +kernel) ?_
        refine pe_iload_n (j := 2) (by decide +kernel) rfl ?_
        refine pz_mul (by decide +kernel) kz_4 rfl (by omega) (by omega) (fun z37 hz37 => ?_)
        refine pz_add (by decide +kernel) hz36 hz37 (by omega) (by omega) (fun z38 hz38 => ?_)
        clear hz36 hz37
        refine pe_iload_n (j := 3) (by decide +kernel) rfl ?_
        refine pz_add (by decide +kernel) hz38 kz_2 (by omega) (by omega) (fun z39 hz39 => ?_)
        clear hz38
        refine mz_ld148 (by decide +kernel) hc hIA34 hz39 (by omega) (by omega) (fun v40 ev40 pv40 => ?_)
        rw [show A34 148 = A0 148 from (upa_fr eA34 (by decide)).trans ((upa_fr eA26 (by decide)).trans ((hF 148 (by decide) (by decide))))] at ev40
        rw [ev40.trans ev24.symm]
        clear pv40 ev40 v40
        clear hz39
        refine pe_iret (by decide +kernel) rfl rfl ⟨rfl, rfl, ?_⟩
        show pmE pg X pg_tyl pg_cl (d + 1) 285 102 [.ref 147, .int x1, .int x2, .int x3, .int v11, .int v16] [.int v24, .int v35, .int v16, .ref 163] (md wc f A34) _
        refine pw_add (by decide +kernel) (fun z41 => ?_)
        refine mz_st163 (by decide +kernel) hc hIA34 rfl (by omega) (by omega) (fun A42 eA42 hIA42 => ?_)
        refine pz_iinc (j := 3) (n := 1) (by decide +kernel) rfl rfl (by decide +kernel) (by omega) (by omega) (fun z43 hz43 => ?_)
        show pmE pg X pg_tyl pg_cl (d + 1) 285 107 [.ref 147, .int x1, .int x2, .int z43, .int v11, .int v16] [] (md wc f A42) _
        refine pe_goto (off := (-101)) (t := 6) (by decide +kernel) (by decide) rfl ?_
        exact ih A42 z43 (.int v11) (.int v16) hIA42 (fun k n160 n163 => (upa_fr eA42 n163).trans ((upa_fr eA34 n163).trans ((upa_fr eA26 n160).trans ((hF k n160 n163))))) (by omega) (by omega)
      · skip
        refine pe_goto (off := 78) (t := 104) (by decide +kernel) (by decide) rfl ?_
        refine pz_iinc (j := 3) (n := 1) (by decide +kernel) rfl rfl (by decide +kernel) (by omega) (by omega) (fun z44 hz44 => ?_)
        show pmE pg X pg_tyl pg_cl (d + 1) 285 107 [.ref 147, .int x1, .int x2, .int z44, u4, u5] [] (md wc f A) _
        refine pe_goto (off := (-101)) (t := 6) (by decide +kernel) (by decide) rfl ?_
        exact ih A z44 (u4) (u5) hI (fun k n160 n163 => (hF k n160 n163)) (by omega) (by omega)
set_option maxRecDepth 100000 in
set_option maxHeartbeats 8000000 in
theorem MM_285 {X : pm_X} {d : Nat} {wc : pm_W} {f : Nat → Int32} {A : Nat → List Int32} {x1 x2 : Int32} (hc : wc.length = 147) (hI : MI f A) (gx1 : (610 ≤ x1.toInt ∧ x1.toInt ≤ 742 ∧ (x1.toInt - 610) % 132 = 0)) : pmE pg X pg_tyl pg_cl (d + 1) 285 0 (pm_ent (pm_max pg 285) [.ref 147, .int x1, .int x2]) [] (md wc f A) (fun q => ∃ (A' : Nat → List Int32), q = (none, md wc f A', 0, 0) ∧ MI f A' ∧ (∀ k : Nat, k ≠ 160 → k ≠ 161 → k ≠ 162 → k ≠ 163 → A' k = A k) ∧ ((True))) := by
  show pmE pg X pg_tyl pg_cl (d + 1) 285 0 [.ref 147, .int x1, .int x2, pm_dead, pm_dead, pm_dead] [] (md wc f A) _
  refine pe_aload_n (j := 0) (by decide +kernel) rfl ?_
  refine pz_callV (j := 324) (mj := 277) (by decide +kernel) (cll_V (args := []) (n := 0) (by decide +kernel) rfl rfl (md_o hc) (by decide +kernel) (Nat.le_of_ble_eq_true rfl) (Nat.le_of_ble_eq_true rfl)) (MM_277 hc hI) (fun q1a q1b q1c q1d hqq1 => ?_)
  obtain ⟨A2, eq1, hIq1, hFq1, kq1⟩ := hqq1
  cases eq1
  refine ⟨rfl, rfl, ?_⟩
  show pmE pg X pg_tyl pg_cl (d + 1) 285 4 [.ref 147, .int x1, .int x2, pm_dead, pm_dead, pm_dead] [] (md wc f A2) _
  refine pe_iconstv (n := 0) (v := 0) (by decide +kernel) (by decide +kernel) ?_
  refine pe_istore_n (j := 3) (ls' := [.ref 147, .int x1, .int x2, .int 0, pm_dead, pm_dead]) (by decide +kernel) (Nat.le_of_ble_eq_true rfl) rfl ?_
  refine ML_285_6 hc (by omega) (fun A3 y5 u6 u7 hIy4 hFhIy4 gy5 => ?_) 8 A2 0 (pm_dead) (pm_dead) hIq1 (fun k _ _ => rfl) (by decide +kernel) (by decide +kernel)
  exact pe_vret (by decide +kernel) rfl ⟨A3, rfl, hIy4, (fun k n160 n161 n162 n163 => ((hFhIy4 k n160 n163)).trans ((hFq1 k n160 n161 n162 n163))), trivial⟩
