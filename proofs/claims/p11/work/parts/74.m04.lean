set_option maxRecDepth 100000 in
set_option maxHeartbeats 8000000 in
theorem ML_270_6 {X : pm_X} {d : Nat} {wc : pm_W} {Q : pm_R → Prop} {f : Nat → Int32} {A : Nat → List Int32} {x1 x2 x3 : Int32} (hc : wc.length = 147) (hI : MI f A) (gx1 : (610 ≤ x1.toInt ∧ x1.toInt ≤ 742 ∧ (x1.toInt - 610) % 132 = 0)) (k_58_0 : ∀ (y4 : Int32) (y5 : Int32), (2 ≤ y5.toInt ∧ y5.toInt ≤ 6) → pmE pg X pg_tyl pg_cl (d) 270 58 [.ref 147, .int x1, .int x2, .int x3, .int y4, .int y5] [] (md wc f A) Q) : ∀ (m : Nat) (x4 : Int32) (x5 : Int32), (2 ≤ x5.toInt ∧ x5.toInt ≤ 6) → 6 - x5.toInt < (m : Int) → pmE pg X pg_tyl pg_cl (d) 270 6 [.ref 147, .int x1, .int x2, .int x3, .int x4, .int x5] [] (md wc f A) Q := by
  intro m
  induction m with
  | zero =>
    intro x4 x5 gx5 hm
    exfalso
    have l0 := zi_lo x5
    have u0 := zi_hi x5
    omega
  | succ m ih =>
    intro x4 x5 gx5 hm
    refine pe_iload (j := 5) (by decide +kernel) rfl ?_
    refine pe_aload_n (j := 0) (by decide +kernel) rfl ?_
    refine pe_get (j := 278) (ci := 12) (n := 24) (by decide +kernel) (by decide +kernel) (md_o hc) rfl ?_
    have hr_24_f := hI.1 24
    simp only [MF] at hr_24_f
    refine pz_icmp_ge (off := 46) (t := 58) (by decide +kernel) (by decide) rfl rfl rfl (fun h1 => ?_) (fun h1 => ?_)
    · skip
      exact k_58_0 x4 x5 (by omega)
    · skip
      refine pe_iload (j := 4) (by decide +kernel) rfl ?_
      refine pe_aload_n (j := 0) (by decide +kernel) rfl ?_
      refine pe_get (j := 41) (ci := 12) (n := 21) (by decide +kernel) (by decide +kernel) (md_o hc) rfl ?_
      refine pe_iload (j := 5) (by decide +kernel) rfl ?_
      refine mz_ld158 (by decide +kernel) hc hI rfl (by omega) (by omega) (fun v2 ev2 pv2 => ?_)
      have rv2 : 0 ≤ v2.toInt ∧ v2.toInt ≤ 9 := by have p := pv2; simp only [MP_round] at p; omega
      clear pv2
      refine pe_iload_n (j := 2) (by decide +kernel) rfl ?_
      have lw4 := zi_lo x2
      have uw4 := zi_hi x2
      refine pz_icmp_ne (off := 7) (t := 32) (by decide +kernel) (by decide) rfl rfl rfl (fun h3 => ?_) (fun h3 => ?_)
      · skip
        refine pe_aload_n (j := 0) (by decide +kernel) rfl ?_
        refine pe_get (j := 7) (ci := 12) (n := 0) (by decide +kernel) (by decide +kernel) (md_o hc) rfl ?_
        refine pe_iload_n (j := 1) (by decide +kernel) rfl ?_
        refine pe_bipushv (n := 84) (v := 84) (by decide +kernel) (by decide +kernel) ?_
        refine pz_add (by decide +kernel) rfl kz_84 (by omega) (by omega) (fun z5 hz5 => ?_)
        refine pe_aload_n (j := 0) (by decide +kernel) rfl ?_
        refine pe_get (j := 41) (ci := 12) (n := 21) (by decide +kernel) (by decide +kernel) (md_o hc) rfl ?_
        refine pe_iload (j := 5) (by decide +kernel) rfl ?_
        refine mz_ld158 (by decide +kernel) hc hI rfl (by omega) (by omega) (fun v6 ev6 pv6 => ?_)
        rw [ev6.trans ev2.symm]
        clear pv6 ev6 v6
        refine pz_add (by decide +kernel) hz5 rfl (by omega) (by omega) (fun z7 hz7 => ?_)
        clear hz5
        refine mz_ld148 (by decide +kernel) hc hI hz7 (by omega) (by omega) (fun v8 ev8 pv8 => ?_)
        clear pv8
        clear hz7
        refine pw_add (by decide +kernel) (fun z9 => ?_)
        refine pe_istore (j := 4) (ls' := [.ref 147, .int x1, .int x2, .int x3, .int z9, .int x5]) (by decide +kernel) (Nat.le_of_ble_eq_true rfl) rfl ?_
        refine pz_iinc (j := 5) (n := 1) (by decide +kernel) rfl rfl (by decide +kernel) (by omega) (by omega) (fun z10 hz10 => ?_)
        show pmE pg X pg_tyl pg_cl (d) 270 55 [.ref 147, .int x1, .int x2, .int x3, .int z9, .int z10] [] (md wc f A) _
        refine pe_goto (off := (-49)) (t := 6) (by decide +kernel) (by decide) rfl ?_
        exact ih z9 z10 (by omega) (by omega)
      · skip
        refine pe_iload_n (j := 3) (by decide +kernel) rfl ?_
        refine pe_goto (off := 20) (t := 49) (by decide +kernel) (by decide) rfl ?_
        refine pw_add (by decide +kernel) (fun z11 => ?_)
        refine pe_istore (j := 4) (ls' := [.ref 147, .int x1, .int x2, .int x3, .int z11, .int x5]) (by decide +kernel) (Nat.le_of_ble_eq_true rfl) rfl ?_
        refine pz_iinc (j := 5) (n := 1) (by decide +kernel) rfl rfl (by decide +kernel) (by omega) (by omega) (fun z12 hz12 => ?_)
        show pmE pg X pg_tyl pg_cl (d) 270 55 [.ref 147, .int x1, .int x2, .int x3, .int z11, .int z12] [] (md wc f A) _
        refine pe_goto (off := (-49)) (t := 6) (by decide +kernel) (by decide) rfl ?_
        exact ih z11 z12 (by omega) (by omega)
set_option maxRecDepth 100000 in
set_option maxHeartbeats 8000000 in
theorem MM_270 {X : pm_X} {d : Nat} {wc : pm_W} {f : Nat → Int32} {A : Nat → List Int32} {x1 x2 x3 : Int32} (hc : wc.length = 147) (hI : MI f A) (gx1 : (610 ≤ x1.toInt ∧ x1.toInt ≤ 742 ∧ (x1.toInt - 610) % 132 = 0)) : pmE pg X pg_tyl pg_cl (d) 270 0 (pm_ent (pm_max pg 270) [.ref 147, .int x1, .int x2, .int x3]) [] (md wc f A) (fun q => ∃ (r : Int32), q = (some (.int r), md wc f A, 0, 0) ∧ ((True ∧ True))) := by
  show pmE pg X pg_tyl pg_cl (d) 270 0 [.ref 147, .int x1, .int x2, .int x3, pm_dead, pm_dead] [] (md wc f A) _
  refine pe_iconstv (n := 0) (v := 0) (by decide +kernel) (by decide +kernel) ?_
  refine pe_istore (j := 4) (ls' := [.ref 147, .int x1, .int x2, .int x3, .int 0, pm_dead]) (by decide +kernel) (Nat.le_of_ble_eq_true rfl) rfl ?_
  refine pe_iconstv (n := 2) (v := 2) (by decide +kernel) (by decide +kernel) ?_
  refine pe_istore (j := 5) (ls' := [.ref 147, .int x1, .int x2, .int x3, .int 0, .int 2]) (by decide +kernel) (Nat.le_of_ble_eq_true rfl) rfl ?_
  refine ML_270_6 hc hI (by omega) (fun y1 y2 gy2 => ?_) 5 0 2 (by decide +kernel) (by decide +kernel)
  refine pe_iload (j := 4) (by decide +kernel) rfl ?_
  exact pe_iret (by decide +kernel) rfl rfl ⟨y1, rfl, ⟨trivial, trivial⟩⟩
set_option maxRecDepth 100000 in
set_option maxHeartbeats 8000000 in
theorem ML_271_5 {X : pm_X} {d : Nat} {wc : pm_W} {Q : pm_R → Prop} {f : Nat → Int32} {A : Nat → List Int32} {x1 x2 : Int32} (hc : wc.length = 147) (hI : MI f A) (gx1 : (610 ≤ x1.toInt ∧ x1.toInt ≤ 742 ∧ (x1.toInt - 610) % 132 = 0)) (gx2 : (2 ≤ x2.toInt ∧ x2.toInt ≤ 6)) (k_54_0 : ∀ (i3 : Int64) (y5 : Int32), (6 ≤ y5.toInt ∧ y5.toInt ≤ 6) → pmE pg X pg_tyl pg_cl (d) 271 54 [.ref 147, .int x1, .int x2, .long i3, pm_dead, .int y5] [] (md wc f A) Q) : ∀ (m : Nat) (j3 : Int64) (x5 : Int32), (0 ≤ x5.toInt ∧ x5.toInt ≤ 6) → 6 - x5.toInt < (m : Int) → pmE pg X pg_tyl pg_cl (d) 271 5 [.ref 147, .int x1, .int x2, .long j3, pm_dead, .int x5] [] (md wc f A) Q := by
  intro m
  induction m with
  | zero =>
    intro j3 x5 gx5 hm
    exfalso
    have l0 := zi_lo x5
    have u0 := zi_hi x5
    omega
  | succ m ih =>
    intro j3 x5 gx5 hm
    refine pe_iload (j := 5) (by decide +kernel) rfl ?_
    refine pe_bipushv (n := 6) (v := 6) (by decide +kernel) (by decide +kernel) ?_
    refine pz_icmp_ge (off := 45) (t := 54) (by decide +kernel) (by decide) rfl rfl kz_6 (fun h1 => ?_) (fun h1 => ?_)
    · skip
      exact k_54_0 j3 x5 (by omega)
    · skip
      refine pe_lload_n (j := 3) (by decide +kernel) rfl ?_
      refine pe_iload (j := 5) (by decide +kernel) rfl ?_
      refine pe_iload_n (j := 2) (by decide +kernel) rfl ?_
      refine pz_icmp_ge (off := 27) (t := 43) (by decide +kernel) (by decide) rfl rfl rfl (fun h2 => ?_) (fun h2 => ?_)
      · skip
        refine pw_ldc2 (j := 281) (v := 100) (by decide +kernel) (by decide +kernel) (fun l3 => ?_)
        refine pw_lmul (by decide +kernel) (fun l4 => ?_)
        refine pe_lstore_n (j := 3) (ls' := [.ref 147, .int x1, .int x2, .long l4, pm_dead, .int x5]) (by decide +kernel) (Nat.le_of_ble_eq_true rfl) rfl ?_
        refine pz_iinc (j := 5) (n := 1) (by decide +kernel) rfl rfl (by decide +kernel) (by omega) (by omega) (fun z5 hz5 => ?_)
        show pmE pg X pg_tyl pg_cl (d) 271 51 [.ref 147, .int x1, .int x2, .long l4, pm_dead, .int z5] [] (md wc f A) _
        refine pe_goto (off := (-46)) (t := 5) (by decide +kernel) (by decide) rfl ?_
        exact ih l4 z5 (by omega) (by omega)
      · skip
        refine pe_bipushv (n := 100) (v := 100) (by decide +kernel) (by decide +kernel) ?_
        refine pe_aload_n (j := 0) (by decide +kernel) rfl ?_
        refine pe_get (j := 7) (ci := 12) (n := 0) (by decide +kernel) (by decide +kernel) (md_o hc) rfl ?_
        refine pe_iload_n (j := 1) (by decide +kernel) rfl ?_
        refine pe_bipushv (n := 93) (v := 93) (by decide +kernel) (by decide +kernel) ?_
        refine pz_add (by decide +kernel) rfl kz_93 (by omega) (by omega) (fun z6 hz6 => ?_)
        refine pe_aload_n (j := 0) (by decide +kernel) rfl ?_
        refine pe_get (j := 41) (ci := 12) (n := 21) (by decide +kernel) (by decide +kernel) (md_o hc) rfl ?_
        refine pe_iload (j := 5) (by decide +kernel) rfl ?_
        refine mz_ld158 (by decide +kernel) hc hI rfl (by omega) (by omega) (fun v7 ev7 pv7 => ?_)
        have rv7 : 0 ≤ v7.toInt ∧ v7.toInt ≤ 9 := by have p := pv7; simp only [MP_round] at p; omega
        clear pv7
        refine pz_add (by decide +kernel) hz6 rfl (by omega) (by omega) (fun z8 hz8 => ?_)
        clear hz6
        refine mz_ld148 (by decide +kernel) hc hI hz8 (by omega) (by omega) (fun v9 ev9 pv9 => ?_)
        clear pv9
        clear hz8
        refine pw_sub (by decide +kernel) (fun z10 => ?_)
        refine pw_i2l (by decide +kernel) (fun l11 => ?_)
        refine pe_goto (off := 6) (t := 46) (by decide +kernel) (by decide) rfl ?_
        refine pw_lmul (by decide +kernel) (fun l12 => ?_)
        refine pe_lstore_n (j := 3) (ls' := [.ref 147, .int x1, .int x2, .long l12, pm_dead, .int x5]) (by decide +kernel) (Nat.le_of_ble_eq_true rfl) rfl ?_
        refine pz_iinc (j := 5) (n := 1) (by decide +kernel) rfl rfl (by decide +kernel) (by omega) (by omega) (fun z13 hz13 => ?_)
        show pmE pg X pg_tyl pg_cl (d) 271 51 [.ref 147, .int x1, .int x2, .long l12, pm_dead, .int z13] [] (md wc f A) _
        refine pe_goto (off := (-46)) (t := 5) (by decide +kernel) (by decide) rfl ?_
        exact ih l12 z13 (by omega) (by omega)
set_option maxRecDepth 100000 in
set_option maxHeartbeats 8000000 in
theorem MM_271 {X : pm_X} {d : Nat} {wc : pm_W} {f : Nat → Int32} {A : Nat → List Int32} {x1 x2 : Int32} (hc : wc.length = 147) (hI : MI f A) (gx1 : (610 ≤ x1.toInt ∧ x1.toInt ≤ 742 ∧ (x1.toInt - 610) % 132 = 0)) (gx2 : (2 ≤ x2.toInt ∧ x2.toInt ≤ 6)) : pmE pg X pg_tyl pg_cl (d) 271 0 (pm_ent (pm_max pg 271) [.ref 147, .int x1, .int x2]) [] (md wc f A) (fun q => ∃ (l : Int64), q = (some (.long l), md wc f A, 0, 0) ∧ ((True))) := by
  show pmE pg X pg_tyl pg_cl (d) 271 0 [.ref 147, .int x1, .int x2, pm_dead, pm_dead, pm_dead] [] (md wc f A) _
  refine pw_lconst (n := 1) (by decide +kernel) (fun l1 => ?_)
  refine pe_lstore_n (j := 3) (ls' := [.ref 147, .int x1, .int x2, .long l1, pm_dead, pm_dead]) (by decide +kernel) (Nat.le_of_ble_eq_true rfl) rfl ?_
  refine pe_iconstv (n := 0) (v := 0) (by decide +kernel) (by decide +kernel) ?_
  refine pe_istore (j := 5) (ls' := [.ref 147, .int x1, .int x2, .long l1, pm_dead, .int 0]) (by decide +kernel) (Nat.le_of_ble_eq_true rfl) rfl ?_
  refine ML_271_5 hc hI (by omega) (by omega) (fun l2 y3 gy3 => ?_) 7 l1 0 (by decide +kernel) (by decide +kernel)
  refine pe_lload_n (j := 3) (by decide +kernel) rfl ?_
  exact pe_lret (by decide +kernel) rfl ⟨l2, rfl, trivial⟩