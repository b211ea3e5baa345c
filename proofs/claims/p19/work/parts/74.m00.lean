section
set_option maxRecDepth 100000 in
set_option maxHeartbeats 8000000 in
theorem MM_231 {X : pm_X} {d : Nat} {wc : pm_W} {f : Nat → Int32} {A : Nat → List Int32} {x1 x2 x3 : Int32} (hc : wc.length = 147) (hI : MI f A) (gx1 : (610 ≤ x1.toInt ∧ x1.toInt ≤ 742 ∧ (x1.toInt - 610) % 132 = 0)) (gx2 : (0 ≤ x2.toInt ∧ x2.toInt ≤ 8)) (gx3 : (0 ≤ x3.toInt ∧ x3.toInt ≤ 8)) : pmE pg X pg_tyl pg_cl (d + 1) 231 0 (pm_ent (pm_max pg 231) [.ref 147, .int x1, .int x2, .int x3]) [] (md wc f A) (fun q => ∃ (r : Int32), q = (some (.int r), md wc f A, 0, 0) ∧ (((0 ≤ r.toInt) ∧ True))) := by
  show pmE pg X pg_tyl pg_cl (d + 1) 231 0 [.ref 147, .int x1, .int x2, .int x3, pm_dead] [] (md wc f A) _
  refine pe_iload_n (j := 2) (by decide +kernel) rfl ?_
  refine pe_iload_n (j := 3) (by decide +kernel) rfl ?_
  refine pz_icmp_ne (off := 7) (t := 9) (by decide +kernel) (by decide) rfl rfl rfl (fun h1 => ?_) (fun h1 => ?_)
  · skip
    refine pe_aload_n (j := 0) (by decide +kernel) rfl ?_
    refine pe_get (j := 7) (ci := 12) (n := 0) (by decide +kernel) (by decide +kernel) (md_o hc) rfl ?_
    refine pe_iload_n (j := 1) (by decide +kernel) rfl ?_
    refine pe_iconstv (n := 3) (v := 3) (by decide +kernel) (by decide +kernel) ?_
    refine pz_add (by decide +kernel) rfl kz_3 (by omega) (by omega) (fun z2 hz2 => ?_)
    refine pe_bipushv (n := 9) (v := 9) (by decide +kernel) (by decide +kernel) ?_
    refine pe_iload_n (j := 3) (by decide +kernel) rfl ?_
    refine pz_mul (by decide +kernel) kz_9 rfl (by omega) (by omega) (fun z3 hz3 => ?_)
    refine pz_add (by decide +kernel) hz2 hz3 (by omega) (by omega) (fun z4 hz4 => ?_)
    clear hz2 hz3
    refine pe_iload_n (j := 2) (by decide +kernel) rfl ?_
    refine pz_add (by decide +kernel) hz4 rfl (by omega) (by omega) (fun z5 hz5 => ?_)
    clear hz4
    refine mz_ld148 (by decide +kernel) hc hI hz5 (by omega) (by omega) (fun v6 ev6 pv6 => ?_)
    clear pv6
    clear hz5
    refine pe_aload_n (j := 0) (by decide +kernel) rfl ?_
    refine pe_iload_n (j := 2) (by decide +kernel) rfl ?_
    refine pe_iload_n (j := 3) (by decide +kernel) rfl ?_
    refine pi_V (j := 181) (mj := 232) (by decide +kernel) (cll_V (args := [.int x3, .int x2]) (n := 2) (by decide +kernel) rfl rfl (md_o hc) (by decide +kernel) (Nat.le_of_ble_eq_true rfl) (Nat.le_of_ble_eq_true rfl)) ?_
    show pmE pg X pg_tyl pg_cl (d) 232 0 [.ref 147, .int x2, .int x3] [] (md wc f A) _
    refine pe_aload_n (j := 0) (by decide +kernel) rfl ?_
    refine pe_get (j := 23) (ci := 12) (n := 12) (by decide +kernel) (by decide +kernel) (md_o hc) rfl ?_
    refine pe_bipushv (n := 9) (v := 9) (by decide +kernel) (by decide +kernel) ?_
    refine pe_iload_n (j := 1) (by decide +kernel) rfl ?_
    refine pz_mul (by decide +kernel) kz_9 rfl (by omega) (by omega) (fun z7 hz7 => ?_)
    refine pe_iload_n (j := 2) (by decide +kernel) rfl ?_
    refine pz_add (by decide +kernel) hz7 rfl (by omega) (by omega) (fun z8 hz8 => ?_)
    clear hz7
    refine mz_ld152 (by decide +kernel) hc hI hz8 (by omega) (by omega) (fun v9 ev9 => ?_)
    clear hz8
    refine pe_iret (by decide +kernel) rfl rfl ⟨rfl, rfl, ?_⟩
    show pmE pg X pg_tyl pg_cl (d + 1) 231 30 [.ref 147, .int x1, .int x2, .int x3, pm_dead] [.int v9, .int v6] (md wc f A) _
    refine pw_sub (by decide +kernel) (fun z10 => ?_)
    refine pe_istore (j := 4) (ls' := [.ref 147, .int x1, .int x2, .int x3, .int z10]) (by decide +kernel) (Nat.le_of_ble_eq_true rfl) rfl ?_
    refine pe_iload (j := 4) (by decide +kernel) rfl ?_
    have lw12 := zi_lo z10
    have uw12 := zi_hi z10
    refine pz_if_ge (off := 7) (t := 42) (by decide +kernel) (by decide) rfl rfl (fun h11 => ?_) (fun h11 => ?_)
    · skip
      refine pe_iload (j := 4) (by decide +kernel) rfl ?_
      exact pe_iret (by decide +kernel) rfl rfl ⟨z10, rfl, ⟨(by omega), trivial⟩⟩
    · skip
      refine pe_iconstv (n := 0) (v := 0) (by decide +kernel) (by decide +kernel) ?_
      refine pe_goto (off := 5) (t := 44) (by decide +kernel) (by decide) rfl ?_
      exact pe_iret (by decide +kernel) rfl rfl ⟨0, rfl, ⟨(by decide +kernel), trivial⟩⟩
  · skip
    refine pe_iconstv (n := 0) (v := 0) (by decide +kernel) (by decide +kernel) ?_
    refine pe_goto (off := 25) (t := 31) (by decide +kernel) (by decide) rfl ?_
    refine pe_istore (j := 4) (ls' := [.ref 147, .int x1, .int x2, .int x3, .int 0]) (by decide +kernel) (Nat.le_of_ble_eq_true rfl) rfl ?_
    refine pe_iload (j := 4) (by decide +kernel) rfl ?_
    refine pz_if_ge (off := 7) (t := 42) (by decide +kernel) (by decide) rfl kz_0 (fun h13 => ?_) (fun h13 => by omega)
    refine pe_iload (j := 4) (by decide +kernel) rfl ?_
    exact pe_iret (by decide +kernel) rfl rfl ⟨0, rfl, ⟨(by decide +kernel), trivial⟩⟩
set_option maxRecDepth 100000 in
set_option maxHeartbeats 8000000 in
theorem ML_229_2 {X : pm_X} {d : Nat} {wc : pm_W} {Q : pm_R → Prop} {f : Nat → Int32} {A0 : Nat → List Int32} (hc : wc.length = 147) (k_21_0 : ∀ (A' : Nat → List Int32) (y1 : Int32), MI f A' → (∀ k : Nat, k ≠ 152 → A' k = A0 k) → (81 ≤ y1.toInt ∧ y1.toInt ≤ 81) → pmE pg X pg_tyl pg_cl (d) 229 21 [.ref 147, .int y1] [] (md wc f A') Q) : ∀ (m : Nat) (A : Nat → List Int32) (x1 : Int32), MI f A → (∀ k : Nat, k ≠ 152 → A k = A0 k) → (0 ≤ x1.toInt ∧ x1.toInt ≤ 81) → 81 - x1.toInt < (m : Int) → pmE pg X pg_tyl pg_cl (d) 229 2 [.ref 147, .int x1] [] (md wc f A) Q := by
  intro m
  induction m with
  | zero =>
    intro A x1 hI hF gx1 hm
    exfalso
    have l0 := zi_lo x1
    have u0 := zi_hi x1
    omega
  | succ m ih =>
    intro A x1 hI hF gx1 hm
    refine pe_iload_n (j := 1) (by decide +kernel) rfl ?_
    refine pe_bipushv (n := 81) (v := 81) (by decide +kernel) (by decide +kernel) ?_
    refine pz_icmp_ge (off := 16) (t := 21) (by decide +kernel) (by decide) rfl rfl kz_81 (fun h1 => ?_) (fun h1 => ?_)
    · skip
      exact k_21_0 A x1 hI (fun k n152 => (hF k n152)) (by omega)
    · skip
      refine pe_aload_n (j := 0) (by decide +kernel) rfl ?_
      refine pe_get (j := 23) (ci := 12) (n := 12) (by decide +kernel) (by decide +kernel) (md_o hc) rfl ?_
      refine pe_iload_n (j := 1) (by decide +kernel) rfl ?_
      refine pe_iconstv (n := 0) (v := 0) (by decide +kernel) (by decide +kernel) ?_
      refine mz_st152 (by decide +kernel) hc hI rfl (by omega) (by omega) (fun A2 eA2 hIA2 => ?_)
      refine pz_iinc (j := 1) (n := 1) (by decide +kernel) rfl rfl (by decide +kernel) (by omega) (by omega) (fun z3 hz3 => ?_)
      show pmE pg X pg_tyl pg_cl (d) 229 18 [.ref 147, .int z3] [] (md wc f A2) _
      refine pe_goto (off := (-16)) (t := 2) (by decide +kernel) (by decide) rfl ?_
      exact ih A2 z3 hIA2 (fun k n152 => (upa_fr eA2 n152).trans ((hF k n152))) (by omega) (by omega)
set_option maxRecDepth 100000 in
set_option maxHeartbeats 8000000 in
theorem MM_229 {X : pm_X} {d : Nat} {wc : pm_W} {f : Nat → Int32} {A : Nat → List Int32} (hc : wc.length = 147) (hI : MI f A) : pmE pg X pg_tyl pg_cl (d) 229 0 (pm_ent (pm_max pg 229) [.ref 147]) [] (md wc f A) (fun q => ∃ (f' : Nat → Int32) (A' : Nat → List Int32), q = (none, md wc f' A', 0, 0) ∧ MI f' A' ∧ (∀ k : Nat, k ≠ 14 → k ≠ 15 → f' k = f k) ∧ (∀ k : Nat, k ≠ 152 → A' k = A k) ∧ ((f' 14).toInt) ≤ 0 ∧ ((True))) := by
  show pmE pg X pg_tyl pg_cl (d) 229 0 [.ref 147, pm_dead] [] (md wc f A) _
  refine pe_iconstv (n := 0) (v := 0) (by decide +kernel) (by decide +kernel) ?_
  refine pe_istore_n (j := 1) (ls' := [.ref 147, .int 0]) (by decide +kernel) (Nat.le_of_ble_eq_true rfl) rfl ?_
  refine ML_229_2 hc (fun A1 y3 hIy2 hFhIy2 gy3 => ?_) 82 A 0 hI (fun k _ => rfl) (by decide +kernel) (by decide +kernel)
  refine pe_aload_n (j := 0) (by decide +kernel) rfl ?_
  refine pe_iconstv (n := 0) (v := 0) (by decide +kernel) (by decide +kernel) ?_
  refine mz_put14 (jj := 175) (by decide +kernel) (by decide +kernel) hc hIy2 (by decide +kernel) (by decide +kernel) (fun f4 ef4 hIf4 => ?_)
  refine pe_aload_n (j := 0) (by decide +kernel) rfl ?_
  refine pe_iconstv (n := 0) (v := 0) (by decide +kernel) (by decide +kernel) ?_
  refine mz_put15 (jj := 178) (by decide +kernel) (by decide +kernel) hc hIf4 (fun f5 ef5 hIf5 => ?_)
  have hx6 : (f5 14).toInt = 0 := (congrArg Int32.toInt (show f5 14 = 0 from (upf_fr ef5 (by decide)).trans (upf_at ef4))).trans kz_0
  exact pe_vret (by decide +kernel) rfl ⟨f5, A1, rfl, hIf5, (fun k n14 n15 => (upf_fr ef5 n15).trans (upf_fr ef4 n14)), (fun k n152 => (hFhIy2 k n152)), (by omega), trivial⟩
set_option maxRecDepth 100000 in
set_option maxHeartbeats 8000000 in
theorem ML_242_5 {X : pm_X} {d : Nat} {wc : pm_W} {Q : pm_R → Prop} {f : Nat → Int32} {A : Nat → List Int32} {x1 x2 : Int32} (hc : wc.length = 147) (hI : MI f A) (gx1 : (610 ≤ x1.toInt ∧ x1.toInt ≤ 742 ∧ (x1.toInt - 610) % 132 = 0)) (gx2 : (0 ≤ x2.toInt ∧ x2.toInt ≤ 8)) (k_40_0 : ∀ (y3 : Int32) (y4 : Int32), (0 ≤ y4.toInt ∧ y4.toInt ≤ 9) → pmE pg X pg_tyl pg_cl (d + 1) 242 40 [.ref 147, .int x1, .int x2, .int y3, .int y4] [] (md wc f A) Q) : ∀ (m : Nat) (x3 : Int32) (x4 : Int32), (0 ≤ x4.toInt ∧ x4.toInt ≤ 9) → 9 - x4.toInt < (m : Int) → pmE pg X pg_tyl pg_cl (d + 1) 242 5 [.ref 147, .int x1, .int x2, .int x3, .int x4] [] (md wc f A) Q := by
  intro m
  induction m with
  | zero =>
    intro x3 x4 gx4 hm
    exfalso
    have l0 := zi_lo x4
    have u0 := zi_hi x4
    omega
  | succ m ih =>
    intro x3 x4 gx4 hm
    refine pe_iload (j := 4) (by decide +kernel) rfl ?_
    refine pe_aload_n (j := 0) (by decide +kernel) rfl ?_
    refine pe_get (j := 7) (ci := 12) (n := 0) (by decide +kernel) (by decide +kernel) (md_o hc) rfl ?_
    refine pe_iload_n (j := 1) (by decide +kernel) rfl ?_
    refine mz_ld148 (by decide +kernel) hc hI rfl (by omega) (by omega) (fun v1 ev1 pv1 => ?_)
    have rv1 : 0 ≤ v1.toInt ∧ v1.toInt ≤ 9 := MT_people pv1 (by omega)
    clear pv1
    refine pz_icmp_ge (off := 27) (t := 40) (by decide +kernel) (by decide) rfl rfl rfl (fun h2 => ?_) (fun h2 => ?_)
    · skip
      exact k_40_0 x3 x4 (by omega)
    · skip
      refine pe_iload_n (j := 3) (by decide +kernel) rfl ?_
      refine pe_aload_n (j := 0) (by decide +kernel) rfl ?_
      refine pe_iload_n (j := 2) (by decide +kernel) rfl ?_
      refine pe_iload (j := 4) (by decide +kernel) rfl ?_
      refine pi_V (j := 181) (mj := 232) (by decide +kernel) (cll_V (args := [.int x4, .int x2]) (n := 2) (by decide +kernel) rfl rfl (md_o hc) (by decide +kernel) (Nat.le_of_ble_eq_true rfl) (Nat.le_of_ble_eq_true rfl)) ?_
      show pmE pg X pg_tyl pg_cl (d) 232 0 [.ref 147, .int x2, .int x4] [] (md wc f A) _
      refine pe_aload_n (j := 0) (by decide +kernel) rfl ?_
      refine pe_get (j := 23) (ci := 12) (n := 12) (by decide +kernel) (by decide +kernel) (md_o hc) rfl ?_
      refine pe_bipushv (n := 9) (v := 9) (by decide +kernel) (by decide +kernel) ?_
      refine pe_iload_n (j := 1) (by decide +kernel) rfl ?_
      refine pz_mul (by decide +kernel) kz_9 rfl (by omega) (by omega) (fun z3 hz3 => ?_)
      refine pe_iload_n (j := 2) (by decide +kernel) rfl ?_
      refine pz_add (by decide +kernel) hz3 rfl (by omega) (by omega) (fun z4 hz4 => ?_)
      clear hz3
      refine mz_ld152 (by decide +kernel) hc hI hz4 (by omega) (by omega) (fun v5 ev5 => ?_)
      clear hz4
      refine pe_iret (by decide +kernel) rfl rfl ⟨rfl, rfl, ?_⟩
      show pmE pg X pg_tyl pg_cl (d + 1) 242 24 [.ref 147, .int x1, .int x2, .int x3, .int x4] [.int v5, .int x3] (md wc f A) _
      refine pe_aload_n (j := 0) (by decide +kernel) rfl ?_
      refine pe_iload (j := 4) (by decide +kernel) rfl ?_
      refine pe_iload_n (j := 2) (by decide +kernel) rfl ?_
      refine pi_V (j := 181) (mj := 232) (by decide +kernel) (cll_V (args := [.int x2, .int x4]) (n := 2) (by decide +kernel) rfl rfl (md_o hc) (by decide +kernel) (Nat.le_of_ble_eq_true rfl) (Nat.le_of_ble_eq_true rfl)) ?_
      show pmE pg X pg_tyl pg_cl (d) 232 0 [.ref 147, .int x4, .int x2] [] (md wc f A) _
      refine pe_aload_n (j := 0) (by decide +kernel) rfl ?_
      refine pe_get (j := 23) (ci := 12) (n := 12) (by decide +kernel) (by decide +kernel) (md_o hc) rfl ?_
      refine pe_bipushv (n := 9) (v := 9) (by decide +kernel) (by decide +kernel) ?_
      refine pe_iload_n (j := 1) (by decide +kernel) rfl ?_
      refine pz_mul (by decide +kernel) kz_9 rfl (by omega) (by omega) (fun z6 hz6 => ?_)
      refine pe_iload_n (j := 2) (by decide +kernel) rfl ?_
      refine pz_add (by decide +kernel) hz6 rfl (by omega) (by omega) (fun z7 hz7 => ?_)
      clear hz6
      refine mz_ld152 (by decide +kernel) hc hI hz7 (by omega) (by omega) (fun v8 ev8 => ?_)
      clear hz7
      refine pe_iret (by decide +kernel) rfl rfl ⟨rfl, rfl, ?_⟩
      show pmE pg X pg_tyl pg_cl (d + 1) 242 31 [.ref 147, .int x1, .int x2, .int x3, .int x4] [.int v8, .int v5, .int x3] (md wc f A) _
      refine pw_sub (by decide +kernel) (fun z9 => ?_)
      refine pw_add (by decide +kernel) (fun z10 => ?_)
      refine pe_istore_n (j := 3) (ls' := [.ref 147, .int x1, .int x2, .int z10, .int x4]) (by decide +kernel) (Nat.le_of_ble_eq_true rfl) rfl ?_
      refine pz_iinc (j := 4) (n := 1) (by decide +kernel) rfl rfl (by decide +kernel) (by omega) (by omega) (fun z11 hz11 => ?_)
      show pmE pg X pg_tyl pg_cl (d + 1) 242 37 [.ref 147, .int x1, .int x2, .int z10, .int z11] [] (md wc f A) _
      refine pe_goto (off := (-32)) (t := 5) (by decide +kernel) (by decide) rfl ?_
      exact ih z10 z11 (by omega) (by omega)
set_option maxRecDepth 100000 in
set_option maxHeartbeats 8000000 in
theorem MM_242 {X : pm_X} {d : Nat} {wc : pm_W} {f : Nat → Int32} {A : Nat → List Int32} {x1 x2 : Int32} (hc : wc.length = 147) (hI : MI f A) (gx1 : (610 ≤ x1.toInt ∧ x1.toInt ≤ 742 ∧ (x1.toInt - 610) % 132 = 0)) (gx2 : (0 ≤ x2.toInt ∧ x2.toInt ≤ 8)) : pmE pg X pg_tyl pg_cl (d + 1) 242 0 (pm_ent (pm_max pg 242) [.ref 147, .int x1, .int x2]) [] (md wc f A) (fun q => ∃ (r : Int32), q = (some (.int r), md wc f A, 0, 0) ∧ ((True ∧ True))) := by
  show pmE pg X pg_tyl pg_cl (d + 1) 242 0 [.ref 147, .int x1, .int x2, pm_dead, pm_dead] [] (md wc f A) _
  refine pe_iconstv (n := 0) (v := 0) (by decide +kernel) (by decide +kernel) ?_
  refine pe_istore_n (j := 3) (ls' := [.ref 147, .int x1, .int x2, .int 0, pm_dead]) (by decide +kernel) (Nat.le_of_ble_eq_true rfl) rfl ?_
  refine pe_iconstv (n := 0) (v := 0) (by decide +kernel) (by decide +kernel) ?_
  refine pe_istore (j := 4) (ls' := [.ref 147, .int x1, .int x2, .int 0, .int 0]) (by decide +kernel) (Nat.le_of_ble_eq_true rfl) rfl ?_
  refine ML_242_5 hc hI (by omega) (by omega) (fun y1 y2 gy2 => ?_) 10 0 0 (by decide +kernel) (by decide +kernel)
  refine pe_iload_n (j := 3) (by decide +kernel) rfl ?_
  exact pe_iret (by decide +kernel) rfl rfl ⟨y1, rfl, ⟨trivial, trivial⟩⟩
set_option maxRecDepth 100000 in
set_option maxHeartbeats 8000000 in
theorem ML_241_4 {X : pm_X} {d : Nat} {wc : pm_W} {Q : pm_R → Prop} {f : Nat → Int32} {A : Nat → List Int32} {x1 : Int32} (hc : wc.length = 147) (hI : MI f A) (gx1 : (610 ≤ x1.toInt ∧ x1.toInt ≤ 742 ∧ (x1.toInt - 610) % 132 = 0)) (k_59_0 : ∀ (y2 : Int32) (y3 : Int32), (0 ≤ y2.toInt ∧ y2.toInt ≤ 1) → (0 ≤ y3.toInt ∧ y3.toInt ≤ 9) → pmE pg X pg_tyl pg_cl (d + 2) 241 59 [.ref 147, .int x1, .int y2, .int y3] [] (md wc f A) Q) : ∀ (m : Nat) (x2 : Int32) (x3 : Int32), (0 ≤ x2.toInt ∧ x2.toInt ≤ 1) → (0 ≤ x3.toInt ∧ x3.toInt ≤ 9) → 9 - x3.toInt < (m : Int) → pmE pg X pg_tyl pg_cl (d + 2) 241 4 [.ref 147, .int x1, .int x2, .int x3] [] (md wc f A) Q := by
  intro m
  induction m with
  | zero =>
    intro x2 x3 gx2 gx3 hm
    exfalso
    have l0 := zi_lo x3
    have u0 := zi_hi x3
    omega
  | succ m ih =>
    intro x2 x3 gx2 gx3 hm
    refine pe_iload_n (j := 3) (by decide +kernel) rfl ?_
    refine pe_aload_n (j := 0) (by decide +kernel) rfl ?_
    refine pe_get (j := 7) (ci := 12) (n := 0) (by decide +kernel) (by decide +kernel) (md_o hc) rfl ?_
    refine pe_iload_n (j := 1) (by decide +kernel) rfl ?_
    refine mz_ld148 (by decide +kernel) hc hI rfl (by omega) (by omega) (fun v1 ev1 pv1 => ?_)
    have rv1 : 0 ≤ v1.toInt ∧ v1.toInt ≤ 9 := MT_people pv1 (by omega)
    clear pv1
    refine pz_icmp_ge (off := 48) (t := 59) (by decide +kernel) (by decide) rfl rfl rfl (fun h2 => ?_) (fun h2 => ?_)
    · skip
      exact k_59_0 x2 x3 (by omega) (by omega)
    · skip
      refine pe_iload_n (j := 2) (by decide +kernel) rfl ?_
      refine pz_if_eq (off := 36) (t := 51) (by decide +kernel) (by decide) rfl rfl (fun h3 => ?_) (fun h3 => ?_)
      · skip
        refine pe_iconstv (n := 0) (v := 0) (by decide +kernel) (by decide +kernel) ?_
        refine pe_istore_n (j := 2) (ls' := [.ref 147, .int x1, .int 0, .int x3]) (by decide +kernel) (Nat.le_of_ble_eq_true rfl) rfl ?_
        refine pz_iinc (j := 3) (n := 1) (by decide +kernel) rfl rfl (by decide +kernel) (by omega) (by omega) (fun z4 hz4 => ?_)
        show pmE pg X pg_tyl pg_cl (d + 2) 241 56 [.ref 147, .int x1, .int 0, .int z4] [] (md wc f A) _
        refine pe_goto (off := (-52)) (t := 4) (by decide +kernel) (by decide) rfl ?_
        exact ih 0 z4 (by decide +kernel) (by omega) (by omega)
      · skip
        refine pe_aload_n (j := 0) (by decide +kernel) rfl ?_
        refine pe_iload_n (j := 1) (by decide +kernel) rfl ?_
        refine pe_iload_n (j := 3) (by decide +kernel) rfl ?_
        refine pz_callV (j := 211) (mj := 242) (by decide +kernel) (cll_V (args := [.int x3, .int x1]) (n := 2) (by decide +kernel) rfl rfl (md_o hc) (by decide +kernel) (Nat.le_of_ble_eq_true rfl) (Nat.le_of_ble_eq_true rfl)) (MM_242 hc hI (by omega) (by omega)) (fun q5a q5b q5c q5d hqq5 => ?_)
        obtain ⟨rq5, eq5, kq5⟩ := hqq5
        cases eq5
        refine ⟨rfl, rfl, ?_⟩
        show pmE pg X pg_tyl pg_cl (d + 2) 241 24 [.ref 147, .int x1, .int x2, .int x3] [.int rq5] (md wc f A) _
        refine pe_aload_n (j := 0) (by decide +kernel) rfl ?_
        refine pe_get (j := 7) (ci := 12) (n := 0) (by decide +kernel) (by decide +kernel) (md_o hc) rfl ?_
        refine pe_iload_n (j := 1) (by decide +kernel) rfl ?_
        refine pe_iconstv (n := 2) (v := 2) (by decide +kernel) (by decide +kernel) ?_
        refine pz_add (by decide +kernel) rfl kz_2 (by omega) (by omega) (fun z6 hz6 => ?_)
        refine mz_ld148 (by decide +kernel) hc hI hz6 (by omega) (by omega) (fun v7 ev7 pv7 => ?_)
        clear pv7
        clear hz6
        refine pw_neg (by decide +kernel) (fun z8 => ?_)
        refine pe_aload_n (j := 0) (by decide +kernel) rfl ?_
        refine pe_get (j := 7) (ci := 12) (n := 0) (by decide +kernel) (by decide +kernel) (md_o hc) rfl ?_
        refine pe_iload_n (j := 1) (by decide +kernel) rfl ?_
        refine pe_iconstv (n := 2) (v := 2) (by decide +kernel) (by decide +kernel) ?_
        refine pz_add (by decide +kernel) rfl kz_2 (by omega) (by omega) (fun z9 hz9 => ?_)
        refine mz_ld148 (by decide +kernel) hc hI hz9 (by omega) (by omega) (fun v10 ev10 pv10 => ?_)
        rw [ev10.trans ev7.symm]
        clear pv10 ev10 v10
        clear hz9
        refine pi_S (j := 119) (mj := 199) (by decide +kernel) (by decide +kernel) rfl ?_
        show pmE pg X pg_tyl pg_cl (d + 1) 199 0 [.int rq5, .int z8, .int v7] [] (md wc f A) _
        refine pe_iload_n (j := 0) (by decide +kernel) rfl ?_
        refine pe_iload_n (j := 1) (by decide +kernel) rfl ?_
        have lw12 := zi_lo rq5
        have uw12 := zi_hi rq5
        have lw13 := zi_lo z8
        have uw13 := zi_hi z8
        refine pz_icmp_lt (off := 12) (t := 14) (by decide +kernel) (by decide) rfl rfl rfl (fun h11 => ?_) (fun h11 => ?_)
        · skip
          refine pe_iconstv (n := 0) (v := 0) (by decide +kernel) (by decide +kernel) ?_
          refine pe_iret (by decide +kernel) rfl rfl ⟨rfl, rfl, ?_⟩
          show pmE pg X pg_tyl pg_cl (d + 2) 241 44 [.ref 147, .int x1, .int x2, .int x3] [.int 0] (md wc f A) _
          refine pz_if_eq (off := 7) (t := 51) (by decide +kernel) (by decide) rfl kz_0 (fun h14 => ?_) (fun h14 => by omega)
          refine pe_iconstv (n := 0) (v := 0) (by decide +kernel) (by decide +kernel) ?_
          refine pe_istore_n (j := 2) (ls' := [.ref 147, .int x1, .int 0, .int x3]) (by decide +kernel) (Nat.le_of_ble_eq_true rfl) rfl ?_
          refine pz_iinc (j := 3) (n := 1) (by decide +kernel) rfl rfl (by decide +kernel) (by omega) (by omega) (fun z15 hz15 => ?_)
          show pmE pg X pg_tyl pg_cl (d + 2) 241 56 [.ref 147, .int x1, .int 0, .int z15] [] (md wc f A) _
          refine pe_goto (off := (-52)) (t := 4) (by decide +kernel) (by decide) rfl ?_
          exact ih 0 z15 (by decide +kernel) (by omega) (by omega)
        · skip
          refine pe_iload_n (j := 0) (by decide +kernel) rfl ?_
          refine pe_iload_n (j := 2) (by decide +kernel) rfl ?_
          have lw17 := zi_lo v7
          have uw17 := zi_hi v7
          refine pz_icmp_gt (off := 7) (t := 14) (by decide +kernel) (by decide) rfl rfl rfl (fun h16 => ?_) (fun h16 => ?_)
          · skip
            refine pe_iconstv (n := 0) (v := 0) (by decide +kernel) (by decide +kernel) ?_
            refine pe_iret (by decide +kernel) rfl rfl ⟨rfl, rfl, ?_⟩
            show pmE pg X pg_tyl pg_cl (d + 2) 241 44 [.ref 147, .int x1, .int x2, .int x3] [.int 0] (md wc f A) _
            refine pz_if_eq (off := 7) (t := 51) (by decide +kernel) (by decide) rfl kz_0 (fun h18 => ?_) (fun h18 => by omega)
            refine pe_iconstv (n := 0) (v := 0) (by decide +kernel) (by decide +kernel) ?_
            refine pe_istore_n (j := 2) (ls' := [.ref 147, .int x1, .int 0, .int x3]) (by decide +kernel) (Nat.le_of_ble_eq_true rfl) rfl ?_
            refine pz_iinc (j := 3) (n := 1) (by decide +kernel) rfl rfl (by decide +kernel) (by omega) (by omega) (fun z19 hz19 => ?_)
            show pmE pg X pg_tyl pg_cl (d + 2) 241 56 [.ref 147, .int x1, .int 0, .int z19] [] (md wc f A) _
            refine pe_goto (off := (-52)) (t := 4) (by decide +kernel) (by decide) rfl ?_
            exact ih 0 z19 (by decide +kernel) (by omega) (by omega)
          · skip
            refine pe_iconstv (n := 1) (v := 1) (by decide +kernel) (by decide +kernel) ?_
            refine pe_goto (off := 4) (t := 15) (by decide +kernel) (by decide) rfl ?_
            refine pe_iret (by decide +kernel) rfl rfl ⟨rfl, rfl, ?_⟩
            show pmE pg X pg_tyl pg_cl (d + 2) 241 44 [.ref 147, .int x1, .int x2, .int x3] [.int 1] (md wc f A) _
            refine pz_if_eq (off := 7) (t := 51) (by decide +kernel) (by decide) rfl kz_1 (fun h20 => by omega) (fun h20 => ?_)
            refine pe_iconstv (n := 1) (v := 1) (by decide +kernel) (by decide +kernel) ?_
            refine pe_goto (off := 4) (t := 52) (by decide +kernel) (by decide) rfl ?_
            refine pe_istore_n (j := 2) (ls' := [.ref 147, .int x1, .int 1, .int x3]) (by decide +kernel) (Nat.le_of_ble_eq_true rfl) rfl ?_
            refine pz_iinc (j := 3) (n := 1) (by decide +kernel) rfl rfl (by decide +kernel) (by omega) (by omega) (fun z21 hz21 => ?_)
            show pmE pg X pg_tyl pg_cl (d + 2) 241 56 [.ref 147, .int x1, .int 1, .int z21] [] (md wc f A) _
            refine pe_goto (off := (-52)) (t := 4) (by decide +kernel) (by decide) rfl ?_
            exact ih 1 z21 (by decide +kernel) (by omega) (by omega)
set_option maxRecDepth 100000 in
set_option maxHeartbeats 8000000 in
theorem MM_241 {X : pm_X} {d : Nat} {wc : pm_W} {f : Nat → Int32} {A : Nat → List Int32} {x1 : Int32} (hc : wc.length = 147) (hI : MI f A) (gx1 : (610 ≤ x1.toInt ∧ x1.toInt ≤ 742 ∧ (x1.toInt - 610) % 132 = 0)) : pmE pg X pg_tyl pg_cl (d + 2) 241 0 (pm_ent (pm_max pg 241) [.ref 147, .int x1]) [] (md wc f A) (fun q => ∃ (r : Int32), q = (some (.int r), md wc f A, 0, 0) ∧ (((0 ≤ r.toInt ∧ r.toInt ≤ 1) ∧ True))) := by
  show pmE pg X pg_tyl pg_cl (d + 2) 241 0 [.ref 147, .int x1, pm_dead, pm_dead] [] (md wc f A) _
  refine pe_iconstv (n := 1) (v := 1) (by decide +kernel) (by decide +kernel) ?_
  refine pe_istore_n (j := 2) (ls' := [.ref 147, .int x1, .int 1, pm_dead]) (by decide +kernel) (Nat.le_of_ble_eq_true rfl) rfl ?_
  refine pe_iconstv (n := 0) (v := 0) (by decide +kernel) (by decide +kernel) ?_
  refine pe_istore_n (j := 3) (ls' := [.ref 147, .int x1, .int 1, .int 0]) (by decide +kernel) (Nat.le_of_ble_eq_true rfl) rfl ?_
  refine ML_241_4 hc hI (by omega) (fun y1 y2 gy1 gy2 => ?_) 10 1 0 (by decide +kernel) (by decide +kernel) (by decide +kernel)
  refine pe_iload_n (j := 2) (by decide +kernel) rfl ?_
  exact pe_iret (by decide +kernel) rfl (nz_b (by omega)) ⟨y1, rfl, ⟨(by omega), trivial⟩⟩
set_option maxRecDepth 100000 in
set_option maxHeartbeats 8000000 in
theorem ML_251_4 {X : pm_X} {d : Nat} {wc : pm_W} {Q : pm_R → Prop} {f : Nat → Int32} {A : Nat → List Int32} (hc : wc.length = 147) (hI : MI f A) (k_36_0 : ∀ (y1 : Int32) (y2 : Int32), (0 ≤ y2.toInt ∧ y2.toInt ≤ 30) → pmE pg X pg_tyl pg_cl (d + 1) 251 36 [.ref 147, .int y1, .int y2] [] (md wc f A) Q) : ∀ (m : Nat) (x1 : Int32) (x2 : Int32), (0 ≤ x2.toInt ∧ x2.toInt ≤ 30) → 30 - x2.toInt < (m : Int) → pmE pg X pg_tyl pg_cl (d + 1) 251 4 [.ref 147, .int x1, .int x2] [] (md wc f A) Q := by
  intro m
  induction m with
  | zero =>
    intro x1 x2 gx2 hm
    exfalso
    have l0 := zi_lo x2
    have u0 := zi_hi x2
    omega
  | succ m ih =>
    intro x1 x2 gx2 hm
    refine pe_iload_n (j := 2) (by decide +kernel) rfl ?_
    refine pe_aload_n (j := 0) (by decide +kernel) rfl ?_
    refine pe_get (j := 175) (ci := 12) (n := 14) (by decide +kernel) (by decide +kernel) (md_o hc) rfl ?_
    have hr_14_f := hI.1 14
    simp only [MF] at hr_14_f
    refine pz_icmp_ge (off := 27) (t := 36) (by decide +kernel) (by decide) rfl rfl rfl (fun h1 => ?_) (fun h1 => ?_)
    · skip
      exact k_36_0 x1 x2 (by omega)
    · skip
      refine pe_iload_n (j := 1) (by decide +kernel) rfl ?_
      refine pe_aload_n (j := 0) (by decide +kernel) rfl ?_
      refine pe_iload_n (j := 2) (by decide +kernel) rfl ?_
      refine pi_V (j := 190) (mj := 236) (by decide +kernel) (cll_V (args := [.int x2]) (n := 1) (by decide +kernel) rfl rfl (md_o hc) (by decide +kernel) (Nat.le_of_ble_eq_true rfl) (Nat.le_of_ble_eq_true rfl)) ?_
      show pmE pg X pg_tyl pg_cl (d) 236 0 [.ref 147, .int x2] [] (md wc f A) _
      refine pe_aload_n (j := 0) (by decide +kernel) rfl ?_
      refine pe_get (j := 26) (ci := 12) (n := 13) (by decide +kernel) (by decide +kernel) (md_o hc) rfl ?_
      refine pe_bipushv (n := 10) (v := 10) (by decide +kernel) (by decide +kernel) ?_
      refine pe_iload_n (j := 1) (by decide +kernel) rfl ?_
      refine pz_mul (by decide +kernel) kz_10 rfl (by omega) (by omega) (fun z2 hz2 => ?_)
      refine pe_iconstv (n := 3) (v := 3) (by decide +kernel) (by decide +kernel) ?_
      refine pz_add (by decide +kernel) hz2 kz_3 (by omega) (by omega) (fun z3 hz3 => ?_)
      clear hz2
      refine mz_ld153 (by decide +kernel) hc hI hz3 (by omega) (by omega) (fun v4 ev4 pv4 => ?_)
      clear hz3
      refine pe_iconstv (n := 1) (v := 1) (by decide +kernel) (by decide +kernel) ?_
      have lw6 := zi_lo v4
      have uw6 := zi_hi v4
      refine pz_icmp_ne (off := 7) (t := 19) (by decide +kernel) (by decide) rfl rfl kz_1 (fun h5 => ?_) (fun h5 => ?_)
      · skip
        refine pe_iconstv (n := 0) (v := 0) (by decide +kernel) (by decide +kernel) ?_
        refine pe_iret (by decide +kernel) rfl rfl ⟨rfl, rfl, ?_⟩
        show pmE pg X pg_tyl pg_cl (d + 1) 251 18 [.ref 147, .int x1, .int x2] [.int 0, .int x1] (md wc f A) _
        refine pz_if_eq (off := 9) (t := 27) (by decide +kernel) (by decide) rfl kz_0 (fun h7 => ?_) (fun h7 => by omega)
        refine pe_iconstv (n := 0) (v := 0) (by decide +kernel) (by decide +kernel) ?_
        refine pw_or (by decide +kernel) (fun z8 => ?_)
        refine pe_istore_n (j := 1) (ls' := [.ref 147, .int z8, .int x2]) (by decide +kernel) (Nat.le_of_ble_eq_true rfl) rfl ?_
        refine pz_iinc (j := 2) (n := 1) (by decide +kernel) rfl rfl (by decide +kernel) (by omega) (by omega) (fun z9 hz9 => ?_)
        show pmE pg X pg_tyl pg_cl (d + 1) 251 33 [.ref 147, .int z8, .int z9] [] (md wc f A) _
        refine pe_goto (off := (-29)) (t := 4) (by decide +kernel) (by decide) rfl ?_
        exact ih z8 z9 (by omega) (by omega)
      · skip
        refine pe_iconstv (n := 1) (v := 1) (by decide +kernel) (by decide +kernel) ?_
        refine pe_goto (off := 4) (t := 20) (by decide +kernel) (by decide) rfl ?_
        refine pe_iret (by decide +kernel) rfl rfl ⟨rfl, rfl, ?_⟩
        show pmE pg X pg_tyl pg_cl (d + 1) 251 18 [.ref 147, .int x1, .int x2] [.int 1, .int x1] (md wc f A) _
        refine pz_if_eq (off := 9) (t := 27) (by decide +kernel) (by decide) rfl kz_1 (fun h10 => by omega) (fun h10 => ?_)
        refine pe_iconstv (n := 1) (v := 1) (by decide +kernel) (by decide +kernel) ?_
        refine pe_iload_n (j := 2) (by decide +kernel) rfl ?_
        refine pw_shl (by decide +kernel) (fun z11 => ?_)
        refine pe_goto (off := 4) (t := 28) (by decide +kernel) (by decide) rfl ?_
        refine pw_or (by decide +kernel) (fun z12 => ?_)
        refine pe_istore_n (j := 1) (ls' := [.ref 147, .int z12, .int x2]) (by decide +kernel) (Nat.le_of_ble_eq_true rfl) rfl ?_
        refine pz_iinc (j := 2) (n := 1) (by decide +kernel) rfl rfl (by decide +kernel) (by omega) (by omega) (fun z13 hz13 => ?_)
        show pmE pg X pg_tyl pg_cl (d + 1) 251 33 [.ref 147, .int z12, .int z13] [] (md wc f A) _
        refine pe_goto (off := (-29)) (t := 4) (by decide +kernel) (by decide) rfl ?_
        exact ih z12 z13 (by omega) (by omega)
set_option maxRecDepth 100000 in
set_option maxHeartbeats 8000000 in
theorem MM_251 {X : pm_X} {d : Nat} {wc : pm_W} {f : Nat → Int32} {A : Nat → List Int32} (hc : wc.length = 147) (hI : MI f A) : pmE pg X pg_tyl pg_cl (d + 1) 251 0 (pm_ent (pm_max pg 251) [.ref 147]) [] (md wc f A) (fun q => ∃ (r : Int32), q = (some (.int r), md wc f A, 0, 0) ∧ ((True ∧ True))) := by
  show pmE pg X pg_tyl pg_cl (d + 1) 251 0 [.ref 147, pm_dead, pm_dead] [] (md wc f A) _
  refine pe_iconstv (n := 0) (v := 0) (by decide +kernel) (by decide +kernel) ?_
  refine pe_istore_n (j := 1) (ls' := [.ref 147, .int 0, pm_dead]) (by decide +kernel) (Nat.le_of_ble_eq_true rfl) rfl ?_
  refine pe_iconstv (n := 0) (v := 0) (by decide +kernel) (by decide +kernel) ?_
  refine pe_istore_n (j := 2) (ls' := [.ref 147, .int 0, .int 0]) (by decide +kernel) (Nat.le_of_ble_eq_true rfl) rfl ?_
  refine ML_251_4 hc hI (fun y1 y2 gy2 => ?_) 31 0 0 (by decide +kernel) (by decide +kernel)
  refine pe_iload_n (j := 1) (by decide +kernel) rfl ?_
  exact pe_iret (by decide +kernel) rfl rfl ⟨y1, rfl, ⟨trivial, trivial⟩⟩
set_option maxRecDepth 100000 in
set_option maxHeartbeats 8000000 in
theorem ML_252_4 {X : pm_X} {d : Nat} {wc : pm_W} {Q : pm_R → Prop} {f : Nat → Int32} {A : Nat → List Int32} (hc : wc.length = 147) (hI : MI f A) (k_25_0 : ∀ (y1 : Int32) (y2 : Int32), (81 ≤ y2.toInt ∧ y2.toInt ≤ 81) → pmE pg X pg_tyl pg_cl (d) 252 25 [.ref 147, .int y1, .int y2] [] (md wc f A) Q) : ∀ (m : Nat) (x1 : Int32) (x2 : Int32), (0 ≤ x2.toInt ∧ x2.toInt ≤ 81) → 81 - x2.toInt < (m : Int) → pmE pg X pg_tyl pg_cl (d) 252 4 [.ref 147, .int x1, .int x2] [] (md wc f A) Q := by
  intro m
  induction m with
  | zero =>
    intro x1 x2 gx2 hm
    exfalso
    have l0 := zi_lo x2
    have u0 := zi_hi x2
    omega
  | succ m ih =>
    intro x1 x2 gx2 hm
    refine pe_iload_n (j := 2) (by decide +kernel) rfl ?_
    refine pe_bipushv (n := 81) (v := 81) (by decide +kernel) (by decide +kernel) ?_
    refine pz_icmp_ge (off := 18) (t := 25) (by decide +kernel) (by decide) rfl rfl kz_81 (fun h1 => ?_) (fun h1 => ?_)
    · skip
      exact k_25_0 x1 x2 (by omega)
    · skip
      refine pe_iload_n (j := 1) (by decide +kernel) rfl ?_
      refine pe_aload_n (j := 0) (by decide +kernel) rfl ?_
      refine pe_get (j := 23) (ci := 12) (n := 12) (by decide +kernel) (by decide +kernel) (md_o hc) rfl ?_
      refine pe_iload_n (j := 2) (by decide +kernel) rfl ?_
      refine mz_ld152 (by decide +kernel) hc hI rfl (by omega) (by omega) (fun v2 ev2 => ?_)
      refine pw_add (by decide +kernel) (fun z3 => ?_)
      refine pe_istore_n (j := 1) (ls' := [.ref 147, .int z3, .int x2]) (by decide +kernel) (Nat.le_of_ble_eq_true rfl) rfl ?_
      refine pz_iinc (j := 2) (n := 1) (by decide +kernel) rfl rfl (by decide +kernel) (by omega) (by omega) (fun z4 hz4 => ?_)
      show pmE pg X pg_tyl pg_cl (d) 252 22 [.ref 147, .int z3, .int z4] [] (md wc f A) _
      refine pe_goto (off := (-18)) (t := 4) (by decide +kernel) (by decide) rfl ?_
      exact ih z3 z4 (by omega) (by omega)
set_option maxRecDepth 100000 in
set_option maxHeartbeats 8000000 in
theorem MM_252 {X : pm_X} {d : Nat} {wc : pm_W} {f : Nat → Int32} {A : Nat → List Int32} (hc : wc.length = 147) (hI : MI f A) : pmE pg X pg_tyl pg_cl (d) 252 0 (pm_ent (pm_max pg 252) [.ref 147]) [] (md wc f A) (fun q => ∃ (r : Int32), q = (some (.int r), md wc f A, 0, 0) ∧ ((True ∧ True))) := by
  show pmE pg X pg_tyl pg_cl (d) 252 0 [.ref 147, pm_dead, pm_dead] [] (md wc f A) _
  refine pe_iconstv (n := 0) (v := 0) (by decide +kernel) (by decide +kernel) ?_
  refine pe_istore_n (j := 1) (ls' := [.ref 147, .int 0, pm_dead]) (by decide +kernel) (Nat.le_of_ble_eq_true rfl) rfl ?_
  refine pe_iconstv (n := 0) (v := 0) (by decide +kernel) (by decide +kernel) ?_
  refine pe_istore_n (j := 2) (ls' := [.ref 147, .int 0, .int 0]) (by decide +kernel) (Nat.le_of_ble_eq_true rfl) rfl ?_
  refine ML_252_4 hc hI (fun y1 y2 gy2 => ?_) 82 0 0 (by decide +kernel) (by decide +kernel)
  refine pe_iload_n (j := 1) (by decide +kernel) rfl ?_
  exact pe_iret (by decide +kernel) rfl rfl ⟨y1, rfl, ⟨trivial, trivial⟩⟩
set_option maxRecDepth 100000 in
set_option maxHeartbeats 8000000 in
theorem ML_254_12 {X : pm_X} {d : Nat} {wc : pm_W} {Q : pm_R → Prop} {f : Nat → Int32} {A : Nat → List Int32} {x2 : Int32} (hc : wc.length = 147) (hI : MI f A) (gx2 : (0 ≤ x2.toInt ∧ x2.toInt ≤ 8)) (k_54_0 : ∀ (y1 : Int32) (y3 : Int32) (v4 : Value), (0 ≤ y3.toInt ∧ y3.toInt ≤ 8) → x2.toInt ≤ y3.toInt → pmE pg X pg_tyl pg_cl (d + 1) 254 54 [.ref 147, .int y1, .int x2, .int y3, v4] [] (md wc f A) Q) : ∀ (m : Nat) (x1 : Int32) (x3 : Int32) (u4 : Value), (0 ≤ x3.toInt ∧ x3.toInt ≤ 8) → 8 - x3.toInt < (m : Int) → pmE pg X pg_tyl pg_cl (d + 1) 254 12 [.ref 147, .int x1, .int x2, .int x3, u4] [] (md wc f A) Q := by
  intro m
  induction m with
  | zero =>
    intro x1 x3 u4 gx3 hm
    exfalso
    have l0 := zi_lo x3
    have u0 := zi_hi x3
    omega
  | succ m ih =>
    intro x1 x3 u4 gx3 hm
    refine pe_iload_n (j := 3) (by decide +kernel) rfl ?_
    refine pe_iload_n (j := 2) (by decide +kernel) rfl ?_
    refine pz_icmp_ge (off := 40) (t := 54) (by decide +kernel) (by decide) rfl rfl rfl (fun h1 => ?_) (fun h1 => ?_)
    · skip
      exact k_54_0 x1 x3 (u4) (by omega) (by omega)
    · skip
      refine pe_aload_n (j := 0) (by decide +kernel) rfl ?_
      refine pe_iload_n (j := 2) (by decide +kernel) rfl ?_
      refine pe_iload_n (j := 3) (by decide +kernel) rfl ?_
      refine pi_V (j := 181) (mj := 232) (by decide +kernel) (cll_V (args := [.int x3, .int x2]) (n := 2) (by decide +kernel) rfl rfl (md_o hc) (by decide +kernel) (Nat.le_of_ble_eq_true rfl) (Nat.le_of_ble_eq_true rfl)) ?_
      show pmE pg X pg_tyl pg_cl (d) 232 0 [.ref 147, .int x2, .int x3] [] (md wc f A) _
      refine pe_aload_n (j := 0) (by decide +kernel) rfl ?_
      refine pe_get (j := 23) (ci := 12) (n := 12) (by decide +kernel) (by decide +kernel) (md_o hc) rfl ?_
      refine pe_bipushv (n := 9) (v := 9) (by decide +kernel) (by decide +kernel) ?_
      refine pe_iload_n (j := 1) (by decide +kernel) rfl ?_
      refine pz_mul (by decide +kernel) kz_9 rfl (by omega) (by omega) (fun z2 hz2 => ?_)
      refine pe_iload_n (j := 2) (by decide +kernel) rfl ?_
      refine pz_add (by decide +kernel) hz2 rfl (by omega) (by omega) (fun z3 hz3 => ?_)
      clear hz2
      refine mz_ld152 (by decide +kernel) hc hI hz3 (by omega) (by omega) (fun v4 ev4 => ?_)
      clear hz3
      refine pe_iret (by decide +kernel) rfl rfl ⟨rfl, rfl, ?_⟩
      show pmE pg X pg_tyl pg_cl (d + 1) 254 23 [.ref 147, .int x1, .int x2, .int x3, u4] [.int v4] (md wc f A) _
      refine pe_aload_n (j := 0) (by decide +kernel) rfl ?_
      refine pe_iload_n (j := 3) (by decide +kernel) rfl ?_
      refine pe_iload_n (j := 2) (by decide +kernel) rfl ?_
      refine pi_V (j := 181) (mj := 232) (by decide +kernel) (cll_V (args := [.int x2, .int x3]) (n := 2) (by decide +kernel) rfl rfl (md_o hc) (by decide +kernel) (Nat.le_of_ble_eq_true rfl) (Nat.le_of_ble_eq_true rfl)) ?_
      show pmE pg X pg_tyl pg_cl (d) 232 0 [.ref 147, .int x3, .int x2] [] (md wc f A) _
      refine pe_aload_n (j := 0) (by decide +kernel) rfl ?_
      refine pe_get (j := 23) (ci := 12) (n := 12) (by decide +kernel) (by decide +kernel) (md_o hc) rfl ?_
      refine pe_bipushv (n := 9) (v := 9) (by decide +kernel) (by decide +kernel) ?_
      refine pe_iload_n (j := 1) (by decide +kernel) rfl ?_
      refine pz_mul (by decide +kernel) kz_9 rfl (by omega) (by omega) (fun z5 hz5 => ?_)
      refine pe_iload_n (j := 2) (by decide +kernel) rfl ?_
      refine pz_add (by decide +kernel) hz5 rfl (by omega) (by omega) (fun z6 hz6 => ?_)
      clear hz5
      refine mz_ld152 (by decide +kernel) hc hI hz6 (by omega) (by omega) (fun v7 ev7 => ?_)
      clear hz6
      refine pe_iret (by decide +kernel) rfl rfl ⟨rfl, rfl, ?_⟩
      show pmE pg X pg_tyl pg_cl (d + 1) 254 29 [.ref 147, .int x1, .int x2, .int x3, u4] [.int v7, .int v4] (md wc f A) _
      refine pw_sub (by decide +kernel) (fun z8 => ?_)
      refine pe_istore (j := 4) (ls' := [.ref 147, .int x1, .int x2, .int x3, .int z8]) (by decide +kernel) (Nat.le_of_ble_eq_true rfl) rfl ?_
      refine pe_iload_n (j := 1) (by decide +kernel) rfl ?_
      refine pe_iload (j := 4) (by decide +kernel) rfl ?_
      have lw10 := zi_lo z8
      have uw10 := zi_hi z8
      refine pz_if_ge (off := 9) (t := 44) (by decide +kernel) (by decide) rfl rfl (fun h9 => ?_) (fun h9 => ?_)
      · skip
        refine pe_iload (j := 4) (by decide +kernel) rfl ?_
        refine pw_add (by decide +kernel) (fun z11 => ?_)
        refine pe_istore_n (j := 1) (ls' := [.ref 147, .int z11, .int x2, .int x3, .int z8]) (by decide +kernel) (Nat.le_of_ble_eq_true rfl) rfl ?_
        refine pz_iinc (j := 3) (n := 1) (by decide +kernel) rfl rfl (by decide +kernel) (by omega) (by omega) (fun z12 hz12 => ?_)
        show pmE pg X pg_tyl pg_cl (d + 1) 254 51 [.ref 147, .int z11, .int x2, .int z12, .int z8] [] (md wc f A) _
        refine pe_goto (off := (-39)) (t := 12) (by decide +kernel) (by decide) rfl ?_
        exact ih z11 z12 (.int z8) (by omega) (by omega)
      · skip
        refine pe_iload (j := 4) (by decide +kernel) rfl ?_
        refine pw_neg (by decide +kernel) (fun z13 => ?_)
        refine pe_goto (off := 5) (t := 46) (by decide +kernel) (by decide) rfl ?_
        refine pw_add (by decide +kernel) (fun z14 => ?_)
        refine pe_istore_n (j := 1) (ls' := [.ref 147, .int z14, .int x2, .int x3, .int z8]) (by decide +kernel) (Nat.le_of_ble_eq_true rfl) rfl ?_
        refine pz_iinc (j := 3) (n := 1) (by decide +kernel) rfl rfl (by decide +kernel) (by omega) (by omega) (fun z15 hz15 => ?_)
        show pmE pg X pg_tyl pg_cl (d + 1) 254 51 [.ref 147, .int z14, .int x2, .int z15, .int z8] [] (md wc f A) _
        refine pe_goto (off := (-39)) (t := 12) (by decide +kernel) (by decide) rfl ?_
        exact ih z14 z15 (.int z8) (by omega) (by omega)
set_option maxRecDepth 100000 in
set_option maxHeartbeats 8000000 in
theorem ML_254_4 {X : pm_X} {d : Nat} {wc : pm_W} {Q : pm_R → Prop} {f : Nat → Int32} {A : Nat → List Int32} (hc : wc.length = 147) (hI : MI f A) (k_60_0 : ∀ (y1 : Int32) (y2 : Int32) (v3 : Value) (v4 : Value), (9 ≤ y2.toInt ∧ y2.toInt ≤ 9) → pmE pg X pg_tyl pg_cl (d + 1) 254 60 [.ref 147, .int y1, .int y2, v3, v4] [] (md wc f A) Q) : ∀ (m : Nat) (x1 : Int32) (x2 : Int32) (u3 : Value) (u4 : Value), (0 ≤ x2.toInt ∧ x2.toInt ≤ 9) → 9 - x2.toInt < (m : Int) → pmE pg X pg_tyl pg_cl (d + 1) 254 4 [.ref 147, .int x1, .int x2, u3, u4] [] (md wc f A) Q := by
  intro m
  induction m with
  | zero =>
    intro x1 x2 u3 u4 gx2 hm
    exfalso
    have l0 := zi_lo x2
    have u0 := zi_hi x2
    omega
  | succ m ih =>
    intro x1 x2 u3 u4 gx2 hm
    refine pe_iload_n (j := 2) (by decide +kernel) rfl ?_
    refine pe_bipushv (n := 9) (v := 9) (by decide +kernel) (by decide +kernel) ?_
    refine pz_icmp_ge (off := 53) (t := 60) (by decide +kernel) (by decide) rfl rfl kz_9 (fun h1 => ?_) (fun h1 => ?_)
    · skip
      exact k_60_0 x1 x2 (u3) (u4) (by omega)
    · skip
      refine pe_iconstv (n := 0) (v := 0) (by decide +kernel) (by decide +kernel) ?_
      refine pe_istore_n (j := 3) (ls' := [.ref 147, .int x1, .int x2, .int 0, u4]) (by decide +kernel) (Nat.le_of_ble_eq_true rfl) rfl ?_
      refine ML_254_12 hc hI (by omega) (fun y2 y3 u4 gy3 hr5 => ?_) 9 x1 0 (u4) (by decide +kernel) (by decide +kernel)
      refine pz_iinc (j := 2) (n := 1) (by decide +kernel) rfl rfl (by decide +kernel) (by omega) (by omega) (fun z6 hz6 => ?_)
      show pmE pg X pg_tyl pg_cl (d + 1) 254 57 [.ref 147, .int y2, .int z6, .int y3, u4] [] (md wc f A) _
      refine pe_goto (off := (-53)) (t := 4) (by decide +kernel) (by decide) rfl ?_
      exact ih y2 z6 (.int y3) (u4) (by omega) (by omega)
set_option maxRecDepth 100000 in
set_option maxHeartbeats 8000000 in
theorem MM_254 {X : pm_X} {d : Nat} {wc : pm_W} {f : Nat → Int32} {A : Nat → List Int32} (hc : wc.length = 147) (hI : MI f A) : pmE pg X pg_tyl pg_cl (d + 1) 254 0 (pm_ent (pm_max pg 254) [.ref 147]) [] (md wc f A) (fun q => ∃ (r : Int32), q = (some (.int r), md wc f A, 0, 0) ∧ ((True ∧ True))) := by
  show pmE pg X pg_tyl pg_cl (d + 1) 254 0 [.ref 147, pm_dead, pm_dead, pm_dead, pm_dead] [] (md wc f A) _
  refine pe_iconstv (n := 0) (v := 0) (by decide +kernel) (by decide +kernel) ?_
  refine pe_istore_n (j := 1) (ls' := [.ref 147, .int 0, pm_dead, pm_dead, pm_dead]) (by decide +kernel) (Nat.le_of_ble_eq_true rfl) rfl ?_
  refine pe_iconstv (n := 0) (v := 0) (by decide +kernel) (by decide +kernel) ?_
  refine pe_istore_n (j := 2) (ls' := [.ref 147, .int 0, .int 0, pm_dead, pm_dead]) (by decide +kernel) (Nat.le_of_ble_eq_true rfl) rfl ?_
  refine ML_254_4 hc hI (fun y1 y2 u3 u4 gy2 => ?_) 10 0 0 (pm_dead) (pm_dead) (by decide +kernel) (by decide +kernel)
  refine pe_iload_n (j := 1) (by decide +kernel) rfl ?_
  exact pe_iret (by decide +kernel) rfl rfl ⟨y1, rfl, ⟨trivial, trivial⟩⟩
end
section
set_option maxRecDepth 100000 in
set_option maxHeartbeats 8000000 in
theorem ML_258_12 {X : pm_X} {d : Nat} {wc : pm_W} {Q : pm_R → Prop} {f : Nat → Int32} {A : Nat → List Int32} {x2 : Int32} (hc : wc.length = 147) (hI : MI f A) (gx2 : (0 ≤ x2.toInt ∧ x2.toInt ≤ 8)) (k_49_0 : ∀ (y1 : Int32) (y3 : Int32), (0 ≤ y3.toInt ∧ y3.toInt ≤ 8) → x2.toInt ≤ y3.toInt → pmE pg X pg_tyl pg_cl (d + 1) 258 49 [.ref 147, .int y1, .int x2, .int y3] [] (md wc f A) Q) : ∀ (m : Nat) (x1 : Int32) (x3 : Int32), (0 ≤ x3.toInt ∧ x3.toInt ≤ 8) → 8 - x3.toInt < (m : Int) → pmE pg X pg_tyl pg_cl (d + 1) 258 12 [.ref 147, .int x1, .int x2, .int x3] [] (md wc f A) Q := by
  intro m
  induction m with
  | zero =>
    intro x1 x3 gx3 hm
    exfalso
    have l0 := zi_lo x3
    have u0 := zi_hi x3
    omega
  | succ m ih =>
    intro x1 x3 gx3 hm
    refine pe_iload_n (j := 3) (by decide +kernel) rfl ?_
    refine pe_iload_n (j := 2) (by decide +kernel) rfl ?_
    refine pz_icmp_ge (off := 35) (t := 49) (by decide +kernel) (by decide) rfl rfl rfl (fun h1 => ?_) (fun h1 => ?_)
    · skip
      exact k_49_0 x1 x3 (by omega) (by omega)
    · skip
      refine pe_iload_n (j := 1) (by decide +kernel) rfl ?_
      refine pe_aload_n (j := 0) (by decide +kernel) rfl ?_
      refine pe_iload_n (j := 2) (by decide +kernel) rfl ?_
      refine pe_iload_n (j := 3) (by decide +kernel) rfl ?_
      refine pi_V (j := 181) (mj := 232) (by decide +kernel) (cll_V (args := [.int x3, .int x2]) (n := 2) (by decide +kernel) rfl rfl (md_o hc) (by decide +kernel) (Nat.le_of_ble_eq_true rfl) (Nat.le_of_ble_eq_true rfl)) ?_
      show pmE pg X pg_tyl pg_cl (d) 232 0 [.ref 147, .int x2, .int x3] [] (md wc f A) _
      refine pe_aload_n (j := 0) (by decide +kernel) rfl ?_
      refine pe_get (j := 23) (ci := 12) (n := 12) (by decide +kernel) (by decide +kernel) (md_o hc) rfl ?_
      refine pe_bipushv (n := 9) (v := 9) (by decide +kernel) (by decide +kernel) ?_
      refine pe_iload_n (j := 1) (by decide +kernel) rfl ?_
      refine pz_mul (by decide +kernel) kz_9 rfl (by omega) (by omega) (fun z2 hz2 => ?_)
      refine pe_iload_n (j := 2) (by decide +kernel) rfl ?_
      refine pz_add (by decide +kernel) hz2 rfl (by omega) (by omega) (fun z3 hz3 => ?_)
      clear hz2
      refine mz_ld152 (by decide +kernel) hc hI hz3 (by omega) (by omega) (fun v4 ev4 => ?_)
      clear hz3
      refine pe_iret (by decide +kernel) rfl rfl ⟨rfl, rfl, ?_⟩
      show pmE pg X pg_tyl pg_cl (d + 1) 258 24 [.ref 147, .int x1, .int x2, .int x3] [.int v4, .int x1] (md wc f A) _
      have lw6 := zi_lo v4
      have uw6 := zi_hi v4
      refine pz_if_le (off := 16) (t := 40) (by decide +kernel) (by decide) rfl rfl (fun h5 => ?_) (fun h5 => ?_)
      · skip
        refine pe_iconstv (n := 0) (v := 0) (by decide +kernel) (by decide +kernel) ?_
        have lw8 := zi_lo x1
        have uw8 := zi_hi x1
        refine pz_add (by decide +kernel) rfl kz_0 (by omega) (by omega) (fun z7 hz7 => ?_)
        refine pe_istore_n (j := 1) (ls' := [.ref 147, .int z7, .int x2, .int x3]) (by decide +kernel) (Nat.le_of_ble_eq_true rfl) rfl ?_
        refine pz_iinc (j := 3) (n := 1) (by decide +kernel) rfl rfl (by decide +kernel) (by omega) (by omega) (fun z9 hz9 => ?_)
        show pmE pg X pg_tyl pg_cl (d + 1) 258 46 [.ref 147, .int z7, .int x2, .int z9] [] (md wc f A) _
        refine pe_goto (off := (-34)) (t := 12) (by decide +kernel) (by decide) rfl ?_
        exact ih z7 z9 (by omega) (by omega)
      · skip
        refine pe_aload_n (j := 0) (by decide +kernel) rfl ?_
        refine pe_iload_n (j := 3) (by decide +kernel) rfl ?_
        refine pe_iload_n (j := 2) (by decide +kernel) rfl ?_
        refine pi_V (j := 181) (mj := 232) (by decide +kernel) (cll_V (args := [.int x2, .int x3]) (n := 2) (by decide +kernel) rfl rfl (md_o hc) (by decide +kernel) (Nat.le_of_ble_eq_true rfl) (Nat.le_of_ble_eq_true rfl)) ?_
        show pmE pg X pg_tyl pg_cl (d) 232 0 [.ref 147, .int x3, .int x2] [] (md wc f A) _
        refine pe_aload_n (j := 0) (by decide +kernel) rfl ?_
        refine pe_get (j := 23) (ci := 12) (n := 12) (by decide +kernel) (by decide +kernel) (md_o hc) rfl ?_
        refine pe_bipushv (n := 9) (v := 9) (by decide +kernel) (by decide +kernel) ?_
        refine pe_iload_n (j := 1) (by decide +kernel) rfl ?_
        refine pz_mul (by decide +kernel) kz_9 rfl (by omega) (by omega) (fun z10 hz10 => ?_)
        refine pe_iload_n (j := 2) (by decide +kernel) rfl ?_
        refine pz_add (by decide +kernel) hz10 rfl (by omega) (by omega) (fun z11 hz11 => ?_)
        clear hz10
        refine mz_ld152 (by decide +kernel) hc hI hz11 (by omega) (by omega) (fun v12 ev12 => ?_)
        clear hz11
        refine pe_iret (by decide +kernel) rfl rfl ⟨rfl, rfl, ?_⟩
        show pmE pg X pg_tyl pg_cl (d + 1) 258 33 [.ref 147, .int x1, .int x2, .int x3] [.int v12, .int x1] (md wc f A) _
        have lw14 := zi_lo v12
        have uw14 := zi_hi v12
        refine pz_if_le (off := 7) (t := 40) (by decide +kernel) (by decide) rfl rfl (fun h13 => ?_) (fun h13 => ?_)
        · skip
          refine pe_iconstv (n := 0) (v := 0) (by decide +kernel) (by decide +kernel) ?_
          have lw16 := zi_lo x1
          have uw16 := zi_hi x1
          refine pz_add (by decide +kernel) rfl kz_0 (by omega) (by omega) (fun z15 hz15 => ?_)
          refine pe_istore_n (j := 1) (ls' := [.ref 147, .int z15, .int x2, .int x3]) (by decide +kernel) (Nat.le_of_ble_eq_true rfl) rfl ?_
          refine pz_iinc (j := 3) (n := 1) (by decide +kernel) rfl rfl (by decide +kernel) (by omega) (by omega) (fun z17 hz17 => ?_)
          show pmE pg X pg_tyl pg_cl (d + 1) 258 46 [.ref 147, .int z15, .int x2, .int z17] [] (md wc f A) _
          refine pe_goto (off := (-34)) (t := 12) (by decide +kernel) (by decide) rfl ?_
          exact ih z15 z17 (by omega) (by omega)
        · skip
          refine pe_iconstv (n := 1) (v := 1) (by decide +kernel) (by decide +kernel) ?_
          refine pe_goto (off := 4) (t := 41) (by decide +kernel) (by decide) rfl ?_
          refine pw_add (by decide +kernel) (fun z18 => ?_)
          refine pe_istore_n (j := 1) (ls' := [.ref 147, .int z18, .int x2, .int x3]) (by decide +kernel) (Nat.le_of_ble_eq_true rfl) rfl ?_
          refine pz_iinc (j := 3) (n := 1) (by decide +kernel) rfl rfl (by decide +kernel) (by omega) (by omega) (fun z19 hz19 => ?_)
          show pmE pg X pg_tyl pg_cl (d + 1) 258 46 [.ref 147, .int z18, .int x2, .int z19] [] (md wc f A) _
          refine pe_goto (off := (-34)) (t := 12) (by decide +kernel) (by decide) rfl ?_
          exact ih z18 z19 (by omega) (by omega)
set_option maxRecDepth 100000 in
set_option maxHeartbeats 8000000 in
theorem ML_258_4 {X : pm_X} {d : Nat} {wc : pm_W} {Q : pm_R → Prop} {f : Nat → Int32} {A : Nat → List Int32} (hc : wc.length = 147) (hI : MI f A) (k_55_0 : ∀ (y1 : Int32) (y2 : Int32) (v3 : Value), (9 ≤ y2.toInt ∧ y2.toInt ≤ 9) → pmE pg X pg_tyl pg_cl (d + 1) 258 55 [.ref 147, .int y1, .int y2, v3] [] (md wc f A) Q) : ∀ (m : Nat) (x1 : Int32) (x2 : Int32) (u3 : Value), (0 ≤ x2.toInt ∧ x2.toInt ≤ 9) → 9 - x2.toInt < (m : Int) → pmE pg X pg_tyl pg_cl (d + 1) 258 4 [.ref 147, .int x1, .int x2, u3] [] (md wc f A) Q := by
  intro m
  induction m with
  | zero =>
    intro x1 x2 u3 gx2 hm
    exfalso
    have l0 := zi_lo x2
    have u0 := zi_hi x2
    omega
  | succ m ih =>
    intro x1 x2 u3 gx2 hm
    refine pe_iload_n (j := 2) (by decide +kernel) rfl ?_
    refine pe_bipushv (n := 9) (v := 9) (by decide +kernel) (by decide +kernel) ?_
    refine pz_icmp_ge (off := 48) (t := 55) (by decide +kernel) (by decide) rfl rfl kz_9 (fun h1 => ?_) (fun h1 => ?_)
    · skip
      exact k_55_0 x1 x2 (u3) (by omega)
    · skip
      refine pe_iconstv (n := 0) (v := 0) (by decide +kernel) (by decide +kernel) ?_
      refine pe_istore_n (j := 3) (ls' := [.ref 147, .int x1, .int x2, .int 0]) (by decide +kernel) (Nat.le_of_ble_eq_true rfl) rfl ?_
      refine ML_258_12 hc hI (by omega) (fun y2 y3 gy3 hr4 => ?_) 9 x1 0 (by decide +kernel) (by decide +kernel)
      refine pz_iinc (j := 2) (n := 1) (by decide +kernel) rfl rfl (by decide +kernel) (by omega) (by omega) (fun z5 hz5 => ?_)
      show pmE pg X pg_tyl pg_cl (d + 1) 258 52 [.ref 147, .int y2, .int z5, .int y3] [] (md wc f A) _
      refine pe_goto (off := (-48)) (t := 4) (by decide +kernel) (by decide) rfl ?_
      exact ih y2 z5 (.int y3) (by omega) (by omega)
set_option maxRecDepth 100000 in
set_option maxHeartbeats 8000000 in
theorem MM_258 {X : pm_X} {d : Nat} {wc : pm_W} {f : Nat → Int32} {A : Nat → List Int32} (hc : wc.length = 147) (hI : MI f A) : pmE pg X pg_tyl pg_cl (d + 1) 258 0 (pm_ent (pm_max pg 258) [.ref 147]) [] (md wc f A) (fun q => ∃ (r : Int32), q = (some (.int r), md wc f A, 0, 0) ∧ ((True ∧ True))) := by
  show pmE pg X pg_tyl pg_cl (d + 1) 258 0 [.ref 147, pm_dead, pm_dead, pm_dead] [] (md wc f A) _
  refine pe_iconstv (n := 0) (v := 0) (by decide +kernel) (by decide +kernel) ?_
  refine pe_istore_n (j := 1) (ls' := [.ref 147, .int 0, pm_dead, pm_dead]) (by decide +kernel) (Nat.le_of_ble_eq_true rfl) rfl ?_
  refine pe_iconstv (n := 0) (v := 0) (by decide +kernel) (by decide +kernel) ?_
  refine pe_istore_n (j := 2) (ls' := [.ref 147, .int 0, .int 0, pm_dead]) (by decide +kernel) (Nat.le_of_ble_eq_true rfl) rfl ?_
  refine ML_258_4 hc hI (fun y1 y2 u3 gy2 => ?_) 10 0 0 (pm_dead) (by decide +kernel) (by decide +kernel)
  refine pe_iload_n (j := 1) (by decide +kernel) rfl ?_
  exact pe_iret (by decide +kernel) rfl rfl ⟨y1, rfl, ⟨trivial, trivial⟩⟩
set_option maxRecDepth 100000 in
set_option maxHeartbeats 8000000 in
theorem ML_253_17 {X : pm_X} {d : Nat} {wc : pm_W} {Q : pm_R → Prop} {f : Nat → Int32} {A : Nat → List Int32} {x1 x3 : Int32} (hc : wc.length = 147) (hI : MI f A) (gx1 : (610 ≤ x1.toInt ∧ x1.toInt ≤ 742 ∧ (x1.toInt - 610) % 132 = 0)) (gx3 : (0 ≤ x3.toInt ∧ x3.toInt ≤ 8)) (k_45_0 : ∀ (y2 : Int32) (y4 : Int32), (0 ≤ y4.toInt ∧ y4.toInt ≤ 9) → pmE pg X pg_tyl pg_cl (d + 2) 253 45 [.ref 147, .int x1, .int y2, .int x3, .int y4] [] (md wc f A) Q) : ∀ (m : Nat) (x2 : Int32) (x4 : Int32), (0 ≤ x4.toInt ∧ x4.toInt ≤ 9) → 9 - x4.toInt < (m : Int) → pmE pg X pg_tyl pg_cl (d + 2) 253 17 [.ref 147, .int x1, .int x2, .int x3, .int x4] [] (md wc f A) Q := by
  intro m
  induction m with
  | zero =>
    intro x2 x4 gx4 hm
    exfalso
    have l0 := zi_lo x4
    have u0 := zi_hi x4
    omega
  | succ m ih =>
    intro x2 x4 gx4 hm
    refine pe_iload (j := 4) (by decide +kernel) rfl ?_
    refine pe_aload_n (j := 0) (by decide +kernel) rfl ?_
    refine pe_get (j := 7) (ci := 12) (n := 0) (by decide +kernel) (by decide +kernel) (md_o hc) rfl ?_
    refine pe_iload_n (j := 1) (by decide +kernel) rfl ?_
    refine mz_ld148 (by decide +kernel) hc hI rfl (by omega) (by omega) (fun v1 ev1 pv1 => ?_)
    have rv1 : 0 ≤ v1.toInt ∧ v1.toInt ≤ 9 := MT_people pv1 (by omega)
    clear pv1
    refine pz_icmp_ge (off := 20) (t := 45) (by decide +kernel) (by decide) rfl rfl rfl (fun h2 => ?_) (fun h2 => ?_)
    · skip
      exact k_45_0 x2 x4 (by omega)
    · skip
      refine pe_iload_n (j := 2) (by decide +kernel) rfl ?_
      refine pe_aload_n (j := 0) (by decide +kernel) rfl ?_
      refine pe_iload_n (j := 1) (by decide +kernel) rfl ?_
      refine pe_iload_n (j := 3) (by decide +kernel) rfl ?_
      refine pe_iload (j := 4) (by decide +kernel) rfl ?_
      refine pz_callV (j := 199) (mj := 231) (by decide +kernel) (cll_V (args := [.int x4, .int x3, .int x1]) (n := 3) (by decide +kernel) rfl rfl (md_o hc) (by decide +kernel) (Nat.le_of_ble_eq_true rfl) (Nat.le_of_ble_eq_true rfl)) (MM_231 hc hI (by omega) (by omega) (by omega)) (fun q3a q3b q3c q3d hqq3 => ?_)
      obtain ⟨rq3, eq3, kq3⟩ := hqq3
      cases eq3
      refine ⟨rfl, rfl, ?_⟩
      show pmE pg X pg_tyl pg_cl (d + 2) 253 37 [.ref 147, .int x1, .int x2, .int x3, .int x4] [.int rq3, .int x2] (md wc f A) _
      refine pw_add (by decide +kernel) (fun z4 => ?_)
      refine pe_istore_n (j := 2) (ls' := [.ref 147, .int x1, .int z4, .int x3, .int x4]) (by decide +kernel) (Nat.le_of_ble_eq_true rfl) rfl ?_
      refine pz_iinc (j := 4) (n := 1) (by decide +kernel) rfl rfl (by decide +kernel) (by omega) (by omega) (fun z5 hz5 => ?_)
      show pmE pg X pg_tyl pg_cl (d + 2) 253 42 [.ref 147, .int x1, .int z4, .int x3, .int z5] [] (md wc f A) _
      refine pe_goto (off := (-25)) (t := 17) (by decide +kernel) (by decide) rfl ?_
      exact ih z4 z5 (by omega) (by omega)
set_option maxRecDepth 100000 in
set_option maxHeartbeats 8000000 in
theorem ML_253_4 {X : pm_X} {d : Nat} {wc : pm_W} {Q : pm_R → Prop} {f : Nat → Int32} {A : Nat → List Int32} {x1 : Int32} (hc : wc.length = 147) (hI : MI f A) (gx1 : (610 ≤ x1.toInt ∧ x1.toInt ≤ 742 ∧ (x1.toInt - 610) % 132 = 0)) (k_51_0 : ∀ (y2 : Int32) (y3 : Int32) (v4 : Value), (0 ≤ y3.toInt ∧ y3.toInt ≤ 9) → pmE pg X pg_tyl pg_cl (d + 2) 253 51 [.ref 147, .int x1, .int y2, .int y3, v4] [] (md wc f A) Q) : ∀ (m : Nat) (x2 : Int32) (x3 : Int32) (u4 : Value), (0 ≤ x3.toInt ∧ x3.toInt ≤ 9) → 9 - x3.toInt < (m : Int) → pmE pg X pg_tyl pg_cl (d + 2) 253 4 [.ref 147, .int x1, .int x2, .int x3, u4] [] (md wc f A) Q := by
  intro m
  induction m with
  | zero =>
    intro x2 x3 u4 gx3 hm
    exfalso
    have l0 := zi_lo x3
    have u0 := zi_hi x3
    omega
  | succ m ih =>
    intro x2 x3 u4 gx3 hm
    refine pe_iload_n (j := 3) (by decide +kernel) rfl ?_
    refine pe_aload_n (j := 0) (by decide +kernel) rfl ?_
    refine pe_get (j := 7) (ci := 12) (n := 0) (by decide +kernel) (by decide +kernel) (md_o hc) rfl ?_
    refine pe_iload_n (j := 1) (by decide +kernel) rfl ?_
    refine mz_ld148 (by decide +kernel) hc hI rfl (by omega) (by omega) (fun v1 ev1 pv1 => ?_)
    have rv1 : 0 ≤ v1.toInt ∧ v1.toInt ≤ 9 := MT_people pv1 (by omega)
    clear pv1
    refine pz_icmp_ge (off := 40) (t := 51) (by decide +kernel) (by decide) rfl rfl rfl (fun h2 => ?_) (fun h2 => ?_)
    · skip
      exact k_51_0 x2 x3 (u4) (by omega)
    · skip
      refine pe_iconstv (n := 0) (v := 0) (by decide +kernel) (by decide +kernel) ?_
      refine pe_istore (j := 4) (ls' := [.ref 147, .int x1, .int x2, .int x3, .int 0]) (by decide +kernel) (Nat.le_of_ble_eq_true rfl) rfl ?_
      refine ML_253_17 hc hI (by omega) (by omega) (fun y3 y4 gy4 => ?_) 10 x2 0 (by decide +kernel) (by decide +kernel)
      refine pz_iinc (j := 3) (n := 1) (by decide +kernel) rfl rfl (by decide +kernel) (by omega) (by omega) (fun z5 hz5 => ?_)
      show pmE pg X pg_tyl pg_cl (d + 2) 253 48 [.ref 147, .int x1, .int y3, .int z5, .int y4] [] (md wc f A) _
      refine pe_goto (off := (-44)) (t := 4) (by decide +kernel) (by decide) rfl ?_
      exact ih y3 z5 (.int y4) (by omega) (by omega)
set_option maxRecDepth 100000 in
set_option maxHeartbeats 8000000 in
theorem MM_253 {X : pm_X} {d : Nat} {wc : pm_W} {f : Nat → Int32} {A : Nat → List Int32} {x1 : Int32} (hc : wc.length = 147) (hI : MI f A) (gx1 : (610 ≤ x1.toInt ∧ x1.toInt ≤ 742 ∧ (x1.toInt - 610) % 132 = 0)) : pmE pg X pg_tyl pg_cl (d + 2) 253 0 (pm_ent (pm_max pg 253) [.ref 147, .int x1]) [] (md wc f A) (fun q => ∃ (r : Int32), q = (some (.int r), md wc f A, 0, 0) ∧ ((True ∧ True))) := by
  show pmE pg X pg_tyl pg_cl (d + 2) 253 0 [.ref 147, .int x1, pm_dead, pm_dead, pm_dead] [] (md wc f A) _
  refine pe_iconstv (n := 0) (v := 0) (by decide +kernel) (by decide +kernel) ?_
  refine pe_istore_n (j := 2) (ls' := [.ref 147, .int x1, .int 0, pm_dead, pm_dead]) (by decide +kernel) (Nat.le_of_ble_eq_true rfl) rfl ?_
  refine pe_iconstv (n := 0) (v := 0) (by decide +kernel) (by decide +kernel) ?_
  refine pe_istore_n (j := 3) (ls' := [.ref 147, .int x1, .int 0, .int 0, pm_dead]) (by decide +kernel) (Nat.le_of_ble_eq_true rfl) rfl ?_
  refine ML_253_4 hc hI (by omega) (fun y1 y2 u3 gy2 => ?_) 10 0 0 (pm_dead) (by decide +kernel) (by decide +kernel)
  refine pe_iload_n (j := 2) (by decide +kernel) rfl ?_
  exact pe_iret (by decide +kernel) rfl rfl ⟨y1, rfl, ⟨trivial, trivial⟩⟩
set_option maxRecDepth 100000 in
set_option maxHeartbeats 8000000 in
theorem ML_260_5 {X : pm_X} {d : Nat} {wc : pm_W} {Q : pm_R → Prop} {f : Nat → Int32} {A : Nat → List Int32} {x1 x2 : Int32} (hc : wc.length = 147) (hI : MI f A) (gx1 : (610 ≤ x1.toInt ∧ x1.toInt ≤ 742 ∧ (x1.toInt - 610) % 132 = 0)) (gx2 : (0 ≤ x2.toInt ∧ x2.toInt ≤ 8)) (k_53_0 : ∀ (y3 : Int32) (y4 : Int32), (0 ≤ y4.toInt ∧ y4.toInt ≤ 9) → pmE pg X pg_tyl pg_cl (d + 1) 260 53 [.ref 147, .int x1, .int x2, .int y3, .int y4] [] (md wc f A) Q) : ∀ (m : Nat) (x3 : Int32) (x4 : Int32), (0 ≤ x4.toInt ∧ x4.toInt ≤ 9) → 9 - x4.toInt < (m : Int) → pmE pg X pg_tyl pg_cl (d + 1) 260 5 [.ref 147, .int x1, .int x2, .int x3, .int x4] [] (md wc f A) Q := by
  intro m
  induction m with
  | zero =>
    intro x3 x4 gx4 hm
    exfalso
    have l0 := zi_lo x4
    have u0 := zi_hi x4
    omega
  | succ m ih =>
    intro x3 x4 gx4 hm
    refine pe_iload (j := 4) (by decide +kernel) rfl ?_
    refine pe_aload_n (j := 0) (by decide +kernel) rfl ?_
    refine pe_get (j := 7) (ci := 12) (n := 0) (by decide +kernel) (by decide +kernel) (md_o hc) rfl ?_
    refine pe_iload_n (j := 1) (by decide +kernel) rfl ?_
    refine mz_ld148 (by decide +kernel) hc hI rfl (by omega) (by omega) (fun v1 ev1 pv1 => ?_)
    have rv1 : 0 ≤ v1.toInt ∧ v1.toInt ≤ 9 := MT_people pv1 (by omega)
    clear pv1
    refine pz_icmp_ge (off := 40) (t := 53) (by decide +kernel) (by decide) rfl rfl rfl (fun h2 => ?_) (fun h2 => ?_)
    · skip
      exact k_53_0 x3 x4 (by omega)
    · skip
      refine pe_iload_n (j := 3) (by decide +kernel) rfl ?_
      refine pe_aload_n (j := 0) (by decide +kernel) rfl ?_
      refine pe_iload_n (j := 2) (by decide +kernel) rfl ?_
      refine pe_iload (j := 4) (by decide +kernel) rfl ?_
      refine pi_V (j := 181) (mj := 232) (by decide +kernel) (cll_V (args := [.int x4, .int x2]) (n := 2) (by decide +kernel) rfl rfl (md_o hc) (by decide +kernel) (Nat.le_of_ble_eq_true rfl) (Nat.le_of_ble_eq_true rfl)) ?_
      show pmE pg X pg_tyl pg_cl (d) 232 0 [.ref 147, .int x2, .int x4] [] (md wc f A) _
      refine pe_aload_n (j := 0) (by decide +kernel) rfl ?_
      refine pe_get (j := 23) (ci := 12) (n := 12) (by decide +kernel) (by decide +kernel) (md_o hc) rfl ?_
      refine pe_bipushv (n := 9) (v := 9) (by decide +kernel) (by decide +kernel) ?_
      refine pe_iload_n (j := 1) (by decide +kernel) rfl ?_
      refine pz_mul (by decide +kernel) kz_9 rfl (by omega) (by omega) (fun z3 hz3 => ?_)
      refine pe_iload_n (j := 2) (by decide +kernel) rfl ?_
      refine pz_add (by decide +kernel) hz3 rfl (by omega) (by omega) (fun z4 hz4 => ?_)
      clear hz3
      refine mz_ld152 (by decide +kernel) hc hI hz4 (by omega) (by omega) (fun v5 ev5 => ?_)
      clear hz4
      refine pe_iret (by decide +kernel) rfl rfl ⟨rfl, rfl, ?_⟩
      show pmE pg X pg_tyl pg_cl (d + 1) 260 24 [.ref 147, .int x1, .int x2, .int x3, .int x4] [.int v5, .int x3] (md wc f A) _
      have lw7 := zi_lo v5
      have uw7 := zi_hi v5
      refine pz_if_gt (off := 13) (t := 37) (by decide +kernel) (by decide) rfl rfl (fun h6 => ?_) (fun h6 => ?_)
      · skip
        refine pe_iconstv (n := 1) (v := 1) (by decide +kernel) (by decide +kernel) ?_
        refine pe_iload (j := 4) (by decide +kernel) rfl ?_
        refine pz_shl1 (by decide +kernel) rfl (by omega) (by omega) (fun z8 hz8 => ?_)
        refine pe_goto (off := 4) (t := 45) (by decide +kernel) (by decide) rfl ?_
        refine pw_or (by decide +kernel) (fun z9 => ?_)
        refine pe_istore_n (j := 3) (ls' := [.ref 147, .int x1, .int x2, .int z9, .int x4]) (by decide +kernel) (Nat.le_of_ble_eq_true rfl) rfl ?_
        refine pz_iinc (j := 4) (n := 1) (by decide +kernel) rfl rfl (by decide +kernel) (by omega) (by omega) (fun z10 hz10 => ?_)
        show pmE pg X pg_tyl pg_cl (d + 1) 260 50 [.ref 147, .int x1, .int x2, .int z9, .int z10] [] (md wc f A) _
        refine pe_goto (off := (-45)) (t := 5) (by decide +kernel) (by decide) rfl ?_
        exact ih z9 z10 (by omega) (by omega)
      · skip
        refine pe_aload_n (j := 0) (by decide +kernel) rfl ?_
        refine pe_iload (j := 4) (by decide +kernel) rfl ?_
        refine pe_iload_n (j := 2) (by decide +kernel) rfl ?_
        refine pi_V (j := 181) (mj := 232) (by decide +kernel) (cll_V (args := [.int x2, .int x4]) (n := 2) (by decide +kernel) rfl rfl (md_o hc) (by decide +kernel) (Nat.le_of_ble_eq_true rfl) (Nat.le_of_ble_eq_true rfl)) ?_
        show pmE pg X pg_tyl pg_cl (d) 232 0 [.ref 147, .int x4, .int x2] [] (md wc f A) _
        refine pe_aload_n (j := 0) (by decide +kernel) rfl ?_
        refine pe_get (j := 23) (ci := 12) (n := 12) (by decide +kernel) (by decide +kernel) (md_o hc) rfl ?_
        refine pe_bipushv (n := 9) (v := 9) (by decide +kernel) (by decide +kernel) ?_
        refine pe_iload_n (j := 1) (by decide +kernel) rfl ?_
        refine pz_mul (by decide +kernel) kz_9 rfl (by omega) (by omega) (fun z11 hz11 => ?_)
        refine pe_iload_n (j := 2) (by decide +kernel) rfl ?_
        refine pz_add (by decide +kernel) hz11 rfl (by omega) (by omega) (fun z12 hz12 => ?_)
        clear hz11
        refine mz_ld152 (by decide +kernel) hc hI hz12 (by omega) (by omega) (fun v13 ev13 => ?_)
        clear hz12
        refine pe_iret (by decide +kernel) rfl rfl ⟨rfl, rfl, ?_⟩
        show pmE pg X pg_tyl pg_cl (d + 1) 260 34 [.ref 147, .int x1, .int x2, .int x3, .int x4] [.int v13, .int x3] (md wc f A) _
        have lw15 := zi_lo v13
        have uw15 := zi_hi v13
        refine pz_if_le (off := 10) (t := 44) (by decide +kernel) (by decide) rfl rfl (fun h14 => ?_) (fun h14 => ?_)
        · skip
          refine pe_iconstv (n := 0) (v := 0) (by decide +kernel) (by decide +kernel) ?_
          refine pw_or (by decide +kernel) (fun z16 => ?_)
          refine pe_istore_n (j := 3) (ls' := [.ref 147, .int x1, .int x2, .int z16, .int x4]) (by decide +kernel) (Nat.le_of_ble_eq_true rfl) rfl ?_
          refine pz_iinc (j := 4) (n := 1) (by decide +kernel) rfl rfl (by decide +kernel) (by omega) (by omega) (fun z17 hz17 => ?_)
          show pmE pg X pg_tyl pg_cl (d + 1) 260 50 [.ref 147, .int x1, .int x2, .int z16, .int z17] [] (md wc f A) _
          refine pe_goto (off := (-45)) (t := 5) (by decide +kernel) (by decide) rfl ?_
          exact ih z16 z17 (by omega) (by omega)
        · skip
          refine pe_iconstv (n := 1) (v := 1) (by decide +kernel) (by decide +kernel) ?_
          refine pe_iload (j := 4) (by decide +kernel) rfl ?_
          refine pz_shl1 (by decide +kernel) rfl (by omega) (by omega) (fun z18 hz18 => ?_)
          refine pe_goto (off := 4) (t := 45) (by decide +kernel) (by decide) rfl ?_
          refine pw_or (by decide +kernel) (fun z19 => ?_)
          refine pe_istore_n (j := 3) (ls' := [.ref 147, .int x1, .int x2, .int z19, .int x4]) (by decide +kernel) (Nat.le_of_ble_eq_true rfl) rfl ?_
          refine pz_iinc (j := 4) (n := 1) (by decide +kernel) rfl rfl (by decide +kernel) (by omega) (by omega) (fun z20 hz20 => ?_)
          show pmE pg X pg_tyl pg_cl (d + 1) 260 50 [.ref 147, .int x1, .int x2, .int z19, .int z20] [] (md wc f A) _
          refine pe_goto (off := (-45)) (t := 5) (by decide +kernel) (by decide) rfl ?_
          exact ih z19 z20 (by omega) (by omega)
set_option maxRecDepth 100000 in
set_option maxHeartbeats 8000000 in
theorem MM_260 {X : pm_X} {d : Nat} {wc : pm_W} {f : Nat → Int32} {A : Nat → List Int32} {x1 x2 : Int32} (hc : wc.length = 147) (hI : MI f A) (gx1 : (610 ≤ x1.toInt ∧ x1.toInt ≤ 742 ∧ (x1.toInt - 610) % 132 = 0)) (gx2 : (0 ≤ x2.toInt ∧ x2.toInt ≤ 8)) : pmE pg X pg_tyl pg_cl (d + 1) 260 0 (pm_ent (pm_max pg 260) [.ref 147, .int x1, .int x2]) [] (md wc f A) (fun q => ∃ (r : Int32), q = (some (.int r), md wc f A, 0, 0) ∧ ((True ∧ True))) := by
  show pmE pg X pg_tyl pg_cl (d + 1) 260 0 [.ref 147, .int x1, .int x2, pm_dead, pm_dead] [] (md wc f A) _
  refine pe_iconstv (n := 0) (v := 0) (by decide +kernel) (by decide +kernel) ?_
  refine pe_istore_n (j := 3) (ls' := [.ref 147, .int x1, .int x2, .int 0, pm_dead]) (by decide +kernel) (Nat.le_of_ble_eq_true rfl) rfl ?_
  refine pe_iconstv (n := 0) (v := 0) (by decide +kernel) (by decide +kernel) ?_
  refine pe_istore (j := 4) (ls' := [.ref 147, .int x1, .int x2, .int 0, .int 0]) (by decide +kernel) (Nat.le_of_ble_eq_true rfl) rfl ?_
  refine ML_260_5 hc hI (by omega) (by omega) (fun y1 y2 gy2 => ?_) 10 0 0 (by decide +kernel) (by decide +kernel)
  refine pe_iload_n (j := 3) (by decide +kernel) rfl ?_
  exact pe_iret (by decide +kernel) rfl rfl ⟨y1, rfl, ⟨trivial, trivial⟩⟩
set_option maxRecDepth 100000 in
set_option maxHeartbeats 8000000 in
theorem ML_259_4 {X : pm_X} {d : Nat} {wc : pm_W} {Q : pm_R → Prop} {f : Nat → Int32} {A : Nat → List Int32} {x1 : Int32} (hc : wc.length = 147) (hI : MI f A) (gx1 : (610 ≤ x1.toInt ∧ x1.toInt ≤ 742 ∧ (x1.toInt - 610) % 132 = 0)) (k_39_0 : ∀ (y2 : Int32) (y3 : Int32), (0 ≤ y3.toInt ∧ y3.toInt ≤ 9) → pmE pg X pg_tyl pg_cl (d + 2) 259 39 [.ref 147, .int x1, .int y2, .int y3] [] (md wc f A) Q) : ∀ (m : Nat) (x2 : Int32) (x3 : Int32), (0 ≤ x3.toInt ∧ x3.toInt ≤ 9) → 9 - x3.toInt < (m : Int) → pmE pg X pg_tyl pg_cl (d + 2) 259 4 [.ref 147, .int x1, .int x2, .int x3] [] (md wc f A) Q := by
  intro m
  induction m with
  | zero =>
    intro x2 x3 gx3 hm
    exfalso
    have l0 := zi_lo x3
    have u0 := zi_hi x3
    omega
  | succ m ih =>
    intro x2 x3 gx3 hm
    refine pe_iload_n (j := 3) (by decide +kernel) rfl ?_
    refine pe_aload_n (j := 0) (by decide +kernel) rfl ?_
    refine pe_get (j := 7) (ci := 12) (n := 0) (by decide +kernel) (by decide +kernel) (md_o hc) rfl ?_
    refine pe_iload_n (j := 1) (by decide +kernel) rfl ?_
    refine mz_ld148 (by decide +kernel) hc hI rfl (by omega) (by omega) (fun v1 ev1 pv1 => ?_)
    have rv1 : 0 ≤ v1.toInt ∧ v1.toInt ≤ 9 := MT_people pv1 (by omega)
    clear pv1
    refine pz_icmp_ge (off := 28) (t := 39) (by decide +kernel) (by decide) rfl rfl rfl (fun h2 => ?_) (fun h2 => ?_)
    · skip
      exact k_39_0 x2 x3 (by omega)
    · skip
      refine pe_iload_n (j := 2) (by decide +kernel) rfl ?_
      refine pe_aload_n (j := 0) (by decide +kernel) rfl ?_
      refine pe_iload_n (j := 1) (by decide +kernel) rfl ?_
      refine pe_iload_n (j := 3) (by decide +kernel) rfl ?_
      refine pz_callV (j := 251) (mj := 260) (by decide +kernel) (cll_V (args := [.int x3, .int x1]) (n := 2) (by decide +kernel) rfl rfl (md_o hc) (by decide +kernel) (Nat.le_of_ble_eq_true rfl) (Nat.le_of_ble_eq_true rfl)) (MM_260 hc hI (by omega) (by omega)) (fun q3a q3b q3c q3d hqq3 => ?_)
      obtain ⟨rq3, eq3, kq3⟩ := hqq3
      cases eq3
      refine ⟨rfl, rfl, ?_⟩
      show pmE pg X pg_tyl pg_cl (d + 2) 259 21 [.ref 147, .int x1, .int x2, .int x3] [.int rq3, .int x2] (md wc f A) _
      have lw5 := zi_lo rq3
      have uw5 := zi_hi rq3
      refine pz_if_ne (off := 9) (t := 30) (by decide +kernel) (by decide) rfl rfl (fun h4 => ?_) (fun h4 => ?_)
      · skip
        refine pe_iconstv (n := 0) (v := 0) (by decide +kernel) (by decide +kernel) ?_
        refine pw_or (by decide +kernel) (fun z6 => ?_)
        refine pe_istore_n (j := 2) (ls' := [.ref 147, .int x1, .int z6, .int x3]) (by decide +kernel) (Nat.le_of_ble_eq_true rfl) rfl ?_
        refine pz_iinc (j := 3) (n := 1) (by decide +kernel) rfl rfl (by decide +kernel) (by omega) (by omega) (fun z7 hz7 => ?_)
        show pmE pg X pg_tyl pg_cl (d + 2) 259 36 [.ref 147, .int x1, .int z6, .int z7] [] (md wc f A) _
        refine pe_goto (off := (-32)) (t := 4) (by decide +kernel) (by decide) rfl ?_
        exact ih z6 z7 (by omega) (by omega)
      · skip
        refine pe_iconstv (n := 1) (v := 1) (by decide +kernel) (by decide +kernel) ?_
        refine pe_iload_n (j := 3) (by decide +kernel) rfl ?_
        refine pz_shl1 (by decide +kernel) rfl (by omega) (by omega) (fun z8 hz8 => ?_)
        refine pe_goto (off := 4) (t := 31) (by decide +kernel) (by decide) rfl ?_
        refine pw_or (by decide +kernel) (fun z9 => ?_)
        refine pe_istore_n (j := 2) (ls' := [.ref 147, .int x1, .int z9, .int x3]) (by decide +kernel) (Nat.le_of_ble_eq_true rfl) rfl ?_
        refine pz_iinc (j := 3) (n := 1) (by decide +kernel) rfl rfl (by decide +kernel) (by omega) (by omega) (fun z10 hz10 => ?_)
        show pmE pg X pg_tyl pg_cl (d + 2) 259 36 [.ref 147, .int x1, .int z9, .int z10] [] (md wc f A) _
        refine pe_goto (off := (-32)) (t := 4) (by decide +kernel) (by decide) rfl ?_
        exact ih z9 z10 (by omega) (by omega)
set_option maxRecDepth 100000 in
set_option maxHeartbeats 8000000 in
theorem MM_259 {X : pm_X} {d : Nat} {wc : pm_W} {f : Nat → Int32} {A : Nat → List Int32} {x1 : Int32} (hc : wc.length = 147) (hI : MI f A) (gx1 : (610 ≤ x1.toInt ∧ x1.toInt ≤ 742 ∧ (x1.toInt - 610) % 132 = 0)) : pmE pg X pg_tyl pg_cl (d + 2) 259 0 (pm_ent (pm_max pg 259) [.ref 147, .int x1]) [] (md wc f A) (fun q => ∃ (r : Int32), q = (some (.int r), md wc f A, 0, 0) ∧ ((True ∧ True))) := by
  show pmE pg X pg_tyl pg_cl (d + 2) 259 0 [.ref 147, .int x1, pm_dead, pm_dead] [] (md wc f A) _
  refine pe_iconstv (n := 0) (v := 0) (by decide +kernel) (by decide +kernel) ?_
  refine pe_istore_n (j := 2) (ls' := [.ref 147, .int x1, .int 0, pm_dead]) (by decide +kernel) (Nat.le_of_ble_eq_true rfl) rfl ?_
  refine pe_iconstv (n := 0) (v := 0) (by decide +kernel) (by decide +kernel) ?_
  refine pe_istore_n (j := 3) (ls' := [.ref 147, .int x1, .int 0, .int 0]) (by decide +kernel) (Nat.le_of_ble_eq_true rfl) rfl ?_
  refine ML_259_4 hc hI (by omega) (fun y1 y2 gy2 => ?_) 10 0 0 (by decide +kernel) (by decide +kernel)
  refine pe_iload_n (j := 2) (by decide +kernel) rfl ?_
  exact pe_iret (by decide +kernel) rfl rfl ⟨y1, rfl, ⟨trivial, trivial⟩⟩
set_option maxRecDepth 100000 in
set_option maxHeartbeats 8000000 in
theorem ML_239_5 {X : pm_X} {d : Nat} {wc : pm_W} {Q : pm_R → Prop} {f : Nat → Int32} {A : Nat → List Int32} {x1 x2 : Int32} (hc : wc.length = 147) (hI : MI f A) (gx1 : (0 ≤ x1.toInt ∧ x1.toInt ≤ 30)) (k_46_0 : ∀ (y3 : Int32) (y4 : Int32), (0 ≤ y3.toInt ∧ y3.toInt ≤ 1) → (0 ≤ y4.toInt ∧ y4.toInt ≤ 6) → pmE pg X pg_tyl pg_cl (d + 1) 239 46 [.ref 147, .int x1, .int x2, .int y3, .int y4] [] (md wc f A) Q) : ∀ (m : Nat) (x3 : Int32) (x4 : Int32), (0 ≤ x3.toInt ∧ x3.toInt ≤ 1) → (0 ≤ x4.toInt ∧ x4.toInt ≤ 6) → 6 - x4.toInt < (m : Int) → pmE pg X pg_tyl pg_cl (d + 1) 239 5 [.ref 147, .int x1, .int x2, .int x3, .int x4] [] (md wc f A) Q := by
  intro m
  induction m with
  | zero =>
    intro x3 x4 gx3 gx4 hm
    exfalso
    have l0 := zi_lo x4
    have u0 := zi_hi x4
    omega
  | succ m ih =>
    intro x3 x4 gx3 gx4 hm
    refine pe_iload (j := 4) (by decide +kernel) rfl ?_
    refine pe_aload_n (j := 0) (by decide +kernel) rfl ?_
    refine pe_get (j := 26) (ci := 12) (n := 13) (by decide +kernel) (by decide +kernel) (md_o hc) rfl ?_
    refine pe_bipushv (n := 10) (v := 10) (by decide +kernel) (by decide +kernel) ?_
    refine pe_iload_n (j := 1) (by decide +kernel) rfl ?_
    refine pz_mul (by decide +kernel) kz_10 rfl (by omega) (by omega) (fun z1 hz1 => ?_)
    refine mz_ld153 (by decide +kernel) hc hI hz1 (by omega) (by omega) (fun v2 ev2 pv2 => ?_)
    have rv2 : 0 ≤ v2.toInt ∧ v2.toInt ≤ 6 := by have p := pv2; simp only [MP_rings] at p; omega
    clear hz1
    refine pz_icmp_ge (off := 30) (t := 46) (by decide +kernel) (by decide) rfl rfl rfl (fun h3 => ?_) (fun h3 => ?_)
    · skip
      exact k_46_0 x3 x4 (by omega) (by omega)
    · skip
      refine pe_iload_n (j := 3) (by decide +kernel) rfl ?_
      refine pz_if_ne (off := 14) (t := 34) (by decide +kernel) (by decide) rfl rfl (fun h4 => ?_) (fun h4 => ?_)
      · skip
        refine pe_iconstv (n := 1) (v := 1) (by decide +kernel) (by decide +kernel) ?_
        refine pe_goto (off := 4) (t := 39) (by decide +kernel) (by decide) rfl ?_
        refine pe_istore_n (j := 3) (ls' := [.ref 147, .int x1, .int x2, .int 1, .int x4]) (by decide +kernel) (Nat.le_of_ble_eq_true rfl) rfl ?_
        refine pz_iinc (j := 4) (n := 1) (by decide +kernel) rfl rfl (by decide +kernel) (by omega) (by omega) (fun z5 hz5 => ?_)
        show pmE pg X pg_tyl pg_cl (d + 1) 239 43 [.ref 147, .int x1, .int x2, .int 1, .int z5] [] (md wc f A) _
        refine pe_goto (off := (-38)) (t := 5) (by decide +kernel) (by decide) rfl ?_
        exact ih 1 z5 (by decide +kernel) (by omega) (by omega)
      · skip
        refine pe_aload_n (j := 0) (by decide +kernel) rfl ?_
        refine pe_iload_n (j := 1) (by decide +kernel) rfl ?_
        refine pe_iload (j := 4) (by decide +kernel) rfl ?_
        refine pi_V (j := 184) (mj := 234) (by decide +kernel) (cll_V (args := [.int x4, .int x1]) (n := 2) (by decide +kernel) rfl rfl (md_o hc) (by decide +kernel) (Nat.le_of_ble_eq_true rfl) (Nat.le_of_ble_eq_true rfl)) ?_
        show pmE pg X pg_tyl pg_cl (d) 234 0 [.ref 147, .int x1, .int x4] [] (md wc f A) _
        refine pe_aload_n (j := 0) (by decide +kernel) rfl ?_
        refine pe_get (j := 26) (ci := 12) (n := 13) (by decide +kernel) (by decide +kernel) (md_o hc) rfl ?_
        refine pe_bipushv (n := 10) (v := 10) (by decide +kernel) (by decide +kernel) ?_
        refine pe_iload_n (j := 1) (by decide +kernel) rfl ?_
        refine pz_mul (by decide +kernel) kz_10 rfl (by omega) (by omega) (fun z6 hz6 => ?_)
        refine pe_iconstv (n := 4) (v := 4) (by decide +kernel) (by decide +kernel) ?_
        refine pz_add (by decide +kernel) hz6 kz_4 (by omega) (by omega) (fun z7 hz7 => ?_)
        clear hz6
        refine pe_iload_n (j := 2) (by decide +kernel) rfl ?_
        refine pz_add (by decide +kernel) hz7 rfl (by omega) (by omega) (fun z8 hz8 => ?_)
        clear hz7
        refine mz_ld153 (by decide +kernel) hc hI hz8 (by omega) (by omega) (fun v9 ev9 pv9 => ?_)
        have rv9 : 0 ≤ v9.toInt ∧ v9.toInt ≤ 8 := by have p := pv9; simp only [MP_rings] at p; omega
        clear hz8
        refine pe_iret (by decide +kernel) rfl rfl ⟨rfl, rfl, ?_⟩
        show pmE pg X pg_tyl pg_cl (d + 1) 239 30 [.ref 147, .int x1, .int x2, .int x3, .int x4] [.int v9] (md wc f A) _
        refine pe_iload_n (j := 2) (by decide +kernel) rfl ?_
        have lw11 := zi_lo x2
        have uw11 := zi_hi x2
        refine pz_icmp_ne (off := 7) (t := 38) (by decide +kernel) (by decide) rfl rfl rfl (fun h10 => ?_) (fun h10 => ?_)
        · skip
          refine pe_iconstv (n := 0) (v := 0) (by decide +kernel) (by decide +kernel) ?_
          refine pe_istore_n (j := 3) (ls' := [.ref 147, .int x1, .int x2, .int 0, .int x4]) (by decide +kernel) (Nat.le_of_ble_eq_true rfl) rfl ?_
          refine pz_iinc (j := 4) (n := 1) (by decide +kernel) rfl rfl (by decide +kernel) (by omega) (by omega) (fun z12 hz12 => ?_)
          show pmE pg X pg_tyl pg_cl (d + 1) 239 43 [.ref 147, .int x1, .int x2, .int 0, .int z12] [] (md wc f A) _
          refine pe_goto (off := (-38)) (t := 5) (by decide +kernel) (by decide) rfl ?_
          exact ih 0 z12 (by decide +kernel) (by omega) (by omega)
        · skip
          refine pe_iconstv (n := 1) (v := 1) (by decide +kernel) (by decide +kernel) ?_
          refine pe_goto (off := 4) (t := 39) (by decide +kernel) (by decide) rfl ?_
          refine pe_istore_n (j := 3) (ls' := [.ref 147, .int x1, .int x2, .int 1, .int x4]) (by decide +kernel) (Nat.le_of_ble_eq_true rfl) rfl ?_
          refine pz_iinc (j := 4) (n := 1) (by decide +kernel) rfl rfl (by decide +kernel) (by omega) (by omega) (fun z13 hz13 => ?_)
          show pmE pg X pg_tyl pg_cl (d + 1) 239 43 [.ref 147, .int x1, .int x2, .int 1, .int z13] [] (md wc f A) _
          refine pe_goto (off := (-38)) (t := 5) (by decide +kernel) (by decide) rfl ?_
          exact ih 1 z13 (by decide +kernel) (by omega) (by omega)
set_option maxRecDepth 100000 in
set_option maxHeartbeats 8000000 in
theorem MM_239 {X : pm_X} {d : Nat} {wc : pm_W} {f : Nat → Int32} {A : Nat → List Int32} {x1 x2 : Int32} (hc : wc.length = 147) (hI : MI f A) (gx1 : (0 ≤ x1.toInt ∧ x1.toInt ≤ 30)) : pmE pg X pg_tyl pg_cl (d + 1) 239 0 (pm_ent (pm_max pg 239) [.ref 147, .int x1, .int x2]) [] (md wc f A) (fun q => ∃ (r : Int32), q = (some (.int r), md wc f A, 0, 0) ∧ (((0 ≤ r.toInt ∧ r.toInt ≤ 1) ∧ True))) := by
  show pmE pg X pg_tyl pg_cl (d + 1) 239 0 [.ref 147, .int x1, .int x2, pm_dead, pm_dead] [] (md wc f A) _
  refine pe_iconstv (n := 0) (v := 0) (by decide +kernel) (by decide +kernel) ?_
  refine pe_istore_n (j := 3) (ls' := [.ref 147, .int x1, .int x2, .int 0, pm_dead]) (by decide +kernel) (Nat.le_of_ble_eq_true rfl) rfl ?_
  refine pe_iconstv (n := 0) (v := 0) (by decide +kernel) (by decide +kernel) ?_
  refine pe_istore (j := 4) (ls' := [.ref 147, .int x1, .int x2, .int 0, .int 0]) (by decide +kernel) (Nat.le_of_ble_eq_true rfl) rfl ?_
  refine ML_239_5 hc hI (by omega) (fun y1 y2 gy1 gy2 => ?_) 7 0 0 (by decide +kernel) (by decide +kernel) (by decide +kernel)
  refine pe_iload_n (j := 3) (by decide +kernel) rfl ?_
  exact pe_iret (by decide +kernel) rfl (nz_b (by omega)) ⟨y1, rfl, ⟨(by omega), trivial⟩⟩
end
section
set_option maxRecDepth 100000 in
set_option maxHeartbeats 8000000 in
theorem MM_235 {X : pm_X} {d : Nat} {wc : pm_W} {f : Nat → Int32} {A : Nat → List Int32} {x1 x2 : Int32} (hc : wc.length = 147) (hI : MI f A) (gx1 : (0 ≤ x1.toInt ∧ x1.toInt ≤ 30)) (gx2 : (0 ≤ x2.toInt ∧ x2.toInt ≤ 5)) : pmE pg X pg_tyl pg_cl (d + 1) 235 0 (pm_ent (pm_max pg 235) [.ref 147, .int x1, .int x2]) [] (md wc f A) (fun q => ∃ (r : Int32), q = (some (.int r), md wc f A, 0, 0) ∧ (((0 ≤ r.toInt ∧ r.toInt ≤ 8) ∧ True))) := by
  show pmE pg X pg_tyl pg_cl (d + 1) 235 0 [.ref 147, .int x1, .int x2] [] (md wc f A) _
  refine pe_aload_n (j := 0) (by decide +kernel) rfl ?_
  refine pe_iload_n (j := 1) (by decide +kernel) rfl ?_
  refine pe_iload_n (j := 2) (by decide +kernel) rfl ?_
  refine pe_iconstv (n := 1) (v := 1) (by decide +kernel) (by decide +kernel) ?_
  refine pz_add (by decide +kernel) rfl kz_1 (by omega) (by omega) (fun z1 hz1 => ?_)
  refine pe_aload_n (j := 0) (by decide +kernel) rfl ?_
  refine pe_get (j := 26) (ci := 12) (n := 13) (by decide +kernel) (by decide +kernel) (md_o hc) rfl ?_
  refine pe_bipushv (n := 10) (v := 10) (by decide +kernel) (by decide +kernel) ?_
  refine pe_iload_n (j := 1) (by decide +kernel) rfl ?_
  refine pz_mul (by decide +kernel) kz_10 rfl (by omega) (by omega) (fun z2 hz2 => ?_)
  refine mz_ld153 (by decide +kernel) hc hI hz2 (by omega) (by omega) (fun v3 ev3 pv3 => ?_)
  have rv3 : 0 ≤ v3.toInt ∧ v3.toInt ≤ 6 := by have p := pv3; simp only [MP_rings] at p; omega
  clear hz2
  refine pz_icmp_ne (off := 7) (t := 21) (by decide +kernel) (by decide) rfl hz1 rfl (fun h4 => ?_) (fun h4 => ?_)
  · skip
    clear hz1
    refine pe_iload_n (j := 2) (by decide +kernel) rfl ?_
    refine pe_iconstv (n := 1) (v := 1) (by decide +kernel) (by decide +kernel) ?_
    refine pz_add (by decide +kernel) rfl kz_1 (by omega) (by omega) (fun z5 hz5 => ?_)
    refine pi_V (j := 184) (mj := 234) (by decide +kernel) (cll_V (args := [.int z5, .int x1]) (n := 2) (by decide +kernel) rfl rfl (md_o hc) (by decide +kernel) (Nat.le_of_ble_eq_true rfl) (Nat.le_of_ble_eq_true rfl)) ?_
    show pmE pg X pg_tyl pg_cl (d) 234 0 [.ref 147, .int x1, .int z5] [] (md wc f A) _
    refine pe_aload_n (j := 0) (by decide +kernel) rfl ?_
    refine pe_get (j := 26) (ci := 12) (n := 13) (by decide +kernel) (by decide +kernel) (md_o hc) rfl ?_
    refine pe_bipushv (n := 10) (v := 10) (by decide +kernel) (by decide +kernel) ?_
    refine pe_iload_n (j := 1) (by decide +kernel) rfl ?_
    refine pz_mul (by decide +kernel) kz_10 rfl (by omega) (by omega) (fun z6 hz6 => ?_)
    refine pe_iconstv (n := 4) (v := 4) (by decide +kernel) (by decide +kernel) ?_
    refine pz_add (by decide +kernel) hz6 kz_4 (by omega) (by omega) (fun z7 hz7 => ?_)
    clear hz6
    refine pe_iload_n (j := 2) (by decide +kernel) rfl ?_
    refine pz_add (by decide +kernel) hz7 hz5 (by omega) (by omega) (fun z8 hz8 => ?_)
    clear hz7
    refine mz_ld153 (by decide +kernel) hc hI hz8 (by omega) (by omega) (fun v9 ev9 pv9 => ?_)
    have rv9 : 0 ≤ v9.toInt ∧ v9.toInt ≤ 8 := by have p := pv9; simp only [MP_rings] at p; omega
    clear hz8
    refine pe_iret (by decide +kernel) rfl rfl ⟨rfl, rfl, ?_⟩
    show pmE pg X pg_tyl pg_cl (d + 1) 235 27 [.ref 147, .int x1, .int x2] [.int v9] (md wc f A) _
    exact pe_iret (by decide +kernel) rfl rfl ⟨v9, rfl, ⟨(by omega), trivial⟩⟩
  · skip
    clear hz1
    refine pe_iconstv (n := 0) (v := 0) (by decide +kernel) (by decide +kernel) ?_
    refine pe_goto (off := 6) (t := 24) (by decide +kernel) (by decide) rfl ?_
    refine pi_V (j := 184) (mj := 234) (by decide +kernel) (cll_V (args := [.int 0, .int x1]) (n := 2) (by decide +kernel) rfl rfl (md_o hc) (by decide +kernel) (Nat.le_of_ble_eq_true rfl) (Nat.le_of_ble_eq_true rfl)) ?_
    show pmE pg X pg_tyl pg_cl (d) 234 0 [.ref 147, .int x1, .int 0] [] (md wc f A) _
    refine pe_aload_n (j := 0) (by decide +kernel) rfl ?_
    refine pe_get (j := 26) (ci := 12) (n := 13) (by decide +kernel) (by decide +kernel) (md_o hc) rfl ?_
    refine pe_bipushv (n := 10) (v := 10) (by decide +kernel) (by decide +kernel) ?_
    refine pe_iload_n (j := 1) (by decide +kernel) rfl ?_
    refine pz_mul (by decide +kernel) kz_10 rfl (by omega) (by omega) (fun z10 hz10 => ?_)
    refine pe_iconstv (n := 4) (v := 4) (by decide +kernel) (by decide +kernel) ?_
    refine pz_add (by decide +kernel) hz10 kz_4 (by omega) (by omega) (fun z11 hz11 => ?_)
    clear hz10
    refine pe_iload_n (j := 2) (by decide +kernel) rfl ?_
    refine pz_add (by decide +kernel) hz11 kz_0 (by omega) (by omega) (fun z12 hz12 => ?_)
    clear hz11
    refine mz_ld153 (by decide +kernel) hc hI hz12 (by omega) (by omega) (fun v13 ev13 pv13 => ?_)
    have rv13 : 0 ≤ v13.toInt ∧ v13.toInt ≤ 8 := by have p := pv13; simp only [MP_rings] at p; omega
    clear hz12
    refine pe_iret (by decide +kernel) rfl rfl ⟨rfl, rfl, ?_⟩
    show pmE pg X pg_tyl pg_cl (d + 1) 235 27 [.ref 147, .int x1, .int x2] [.int v13] (md wc f A) _
    exact pe_iret (by decide +kernel) rfl rfl ⟨v13, rfl, ⟨(by omega), trivial⟩⟩
set_option maxRecDepth 100000 in
set_option maxHeartbeats 8000000 in
theorem ML_237_2 {X : pm_X} {d : Nat} {wc : pm_W} {Q : pm_R → Prop} {f : Nat → Int32} {A0 : Nat → List Int32} {x1 : Int32} (hc : wc.length = 147) (gx1 : (0 ≤ x1.toInt ∧ x1.toInt ≤ 30)) (k_86_0 : ∀ (A' : Nat → List Int32) (y2 : Int32) (v3 : Value), MI f A' → (∀ k : Nat, k ≠ 152 → A' k = A0 k) → (0 ≤ y2.toInt ∧ y2.toInt ≤ 6) → pmE pg X pg_tyl pg_cl (d + 2) 237 86 [.ref 147, .int x1, .int y2, v3] [] (md wc f A') Q) : ∀ (m : Nat) (A : Nat → List Int32) (x2 : Int32) (u3 : Value), MI f A → (∀ k : Nat, k ≠ 152 → A k = A0 k) → (0 ≤ x2.toInt ∧ x2.toInt ≤ 6) → 6 - x2.toInt < (m : Int) → pmE pg X pg_tyl pg_cl (d + 2) 237 2 [.ref 147, .int x1, .int x2, u3] [] (md wc f A) Q := by
  intro m
  induction m with
  | zero =>
    intro A x2 u3 hI hF gx2 hm
    exfalso
    have l0 := zi_lo x2
    have u0 := zi_hi x2
    omega
  | succ m ih =>
    intro A x2 u3 hI hF gx2 hm
    refine pe_iload_n (j := 2) (by decide +kernel) rfl ?_
    refine pe_aload_n (j := 0) (by decide +kernel) rfl ?_
    refine pe_get (j := 26) (ci := 12) (n := 13) (by decide +kernel) (by decide +kernel) (md_o hc) rfl ?_
    refine pe_bipushv (n := 10) (v := 10) (by decide +kernel) (by decide +kernel) ?_
    refine pe_iload_n (j := 1) (by decide +kernel) rfl ?_
    refine pz_mul (by decide +kernel) kz_10 rfl (by omega) (by omega) (fun z1 hz1 => ?_)
    refine mz_ld153 (by decide +kernel) hc hI hz1 (by omega) (by omega) (fun v2 ev2 pv2 => ?_)
    rw [show A 153 = A0 153 from (hF 153 (by decide))] at ev2
    have rv2 : 0 ≤ v2.toInt ∧ v2.toInt ≤ 6 := by have p := pv2; simp only [MP_rings] at p; omega
    clear hz1
    refine pz_icmp_ge (off := 74) (t := 86) (by decide +kernel) (by decide) rfl rfl rfl (fun h3 => ?_) (fun h3 => ?_)
    · skip
      exact k_86_0 A x2 (u3) hI (fun k n152 => (hF k n152)) (by omega)
    · skip
      refine pe_bipushv (n := 9) (v := 9) (by decide +kernel) (by decide +kernel) ?_
      refine pe_aload_n (j := 0) (by decide +kernel) rfl ?_
      refine pe_iload_n (j := 1) (by decide +kernel) rfl ?_
      refine pe_iload_n (j := 2) (by decide +kernel) rfl ?_
      refine pi_V (j := 184) (mj := 234) (by decide +kernel) (cll_V (args := [.int x2, .int x1]) (n := 2) (by decide +kernel) rfl rfl (md_o hc) (by decide +kernel) (Nat.le_of_ble_eq_true rfl) (Nat.le_of_ble_eq_true rfl)) ?_
      show pmE pg X pg_tyl pg_cl (d + 1) 234 0 [.ref 147, .int x1, .int x2] [] (md wc f A) _
      refine pe_aload_n (j := 0) (by decide +kernel) rfl ?_
      refine pe_get (j := 26) (ci := 12) (n := 13) (by decide +kernel) (by decide +kernel) (md_o hc) rfl ?_
      refine pe_bipushv (n := 10) (v := 10) (by decide +kernel) (by decide +kernel) ?_
      refine pe_iload_n (j := 1) (by decide +kernel) rfl ?_
      refine pz_mul (by decide +kernel) kz_10 rfl (by omega) (by omega) (fun z4 hz4 => ?_)
      refine pe_iconstv (n := 4) (v := 4) (by decide +kernel) (by decide +kernel) ?_
      refine pz_add (by decide +kernel) hz4 kz_4 (by omega) (by omega) (fun z5 hz5 => ?_)
      clear hz4
      refine pe_iload_n (j := 2) (by decide +kernel) rfl ?_
      refine pz_add (by decide +kernel) hz5 rfl (by omega) (by omega) (fun z6 hz6 => ?_)
      clear hz5
      refine mz_ld153 (by decide +kernel) hc hI hz6 (by omega) (by omega) (fun v7 ev7 pv7 => ?_)
      rw [show A 153 = A0 153 from (hF 153 (by decide))] at ev7
      have rv7 : 0 ≤ v7.toInt ∧ v7.toInt ≤ 8 := by have p := pv7; simp only [MP_rings] at p; omega
      clear hz6
      refine pe_iret (by decide +kernel) rfl rfl ⟨rfl, rfl, ?_⟩
      show pmE pg X pg_tyl pg_cl (d + 2) 237 23 [.ref 147, .int x1, .int x2, u3] [.int v7, .int 9] (md wc f A) _
      refine pz_mul (by decide +kernel) kz_9 rfl (by omega) (by omega) (fun z8 hz8 => ?_)
      refine pe_aload_n (j := 0) (by decide +kernel) rfl ?_
      refine pe_iload_n (j := 1) (by decide +kernel) rfl ?_
      refine pe_iload_n (j := 2) (by decide +kernel) rfl ?_
      refine pz_callV (j := 187) (mj := 235) (by decide +kernel) (cll_V (args := [.int x2, .int x1]) (n := 2) (by decide +kernel) rfl rfl (md_o hc) (by decide +kernel) (Nat.le_of_ble_eq_true rfl) (Nat.le_of_ble_eq_true rfl)) (MM_235 hc hI (by omega) (by omega)) (fun q9a q9b q9c q9d hqq9 => ?_)
      obtain ⟨rq9, eq9, kq9⟩ := hqq9
      cases eq9
      refine ⟨rfl, rfl, ?_⟩
      show pmE pg X pg_tyl pg_cl (d + 2) 237 30 [.ref 147, .int x1, .int x2, u3] [.int rq9, .int z8] (md wc f A) _
      refine pz_add (by decide +kernel) hz8 rfl (by omega) (by omega) (fun z10 hz10 => ?_)
      clear hz8
      refine pe_istore_n (j := 3) (ls' := [.ref 147, .int x1, .int x2, .int z10]) (by decide +kernel) (Nat.le_of_ble_eq_true rfl) rfl ?_
      refine pe_aload_n (j := 0) (by decide +kernel) rfl ?_
      refine pe_get (j := 23) (ci := 12) (n := 12) (by decide +kernel) (by decide +kernel) (md_o hc) rfl ?_
      refine pe_iload_n (j := 3) (by decide +kernel) rfl ?_
      refine pe_aload_n (j := 0) (by decide +kernel) rfl ?_
      refine pe_get (j := 23) (ci := 12) (n := 12) (by decide +kernel) (by decide +kernel) (md_o hc) rfl ?_
      refine pe_iload_n (j := 3) (by decide +kernel) rfl ?_
      refine mz_ld152 (by decide +kernel) hc hI hz10 (by omega) (by omega) (fun v11 ev11 => ?_)
      refine pe_aload_n (j := 0) (by decide +kernel) rfl ?_
      refine pe_get (j := 26) (ci := 12) (n := 13) (by decide +kernel) (by decide +kernel) (md_o hc) rfl ?_
      refine pe_bipushv (n := 10) (v := 10) (by decide +kernel) (by decide +kernel) ?_
      refine pe_iload_n (j := 1) (by decide +kernel) rfl ?_
      refine pz_mul (by decide +kernel) kz_10 rfl (by omega) (by omega) (fun z12 hz12 => ?_)
      refine pe_iconstv (n := 1) (v := 1) (by decide +kernel) (by decide +kernel) ?_
      refine pz_add (by decide +kernel) hz12 kz_1 (by omega) (by omega) (fun z13 hz13 => ?_)
      clear hz12
      refine mz_ld153 (by decide +kernel) hc hI hz13 (by omega) (by omega) (fun v14 ev14 pv14 => ?_)
      rw [show A 153 = A0 153 from (hF 153 (by decide))] at ev14
      clear hz13
      have lw16 := zi_lo v11
      have uw16 := zi_hi v11
      have lw17 := zi_lo v14
      have uw17 := zi_hi v14
      refine pz_icmp_ge (off := 7) (t := 61) (by decide +kernel) (by decide) rfl rfl rfl (fun h15 => ?_) (fun h15 => ?_)
      · skip
        refine pe_aload_n (j := 0) (by decide +kernel) rfl ?_
        refine pe_get (j := 23) (ci := 12) (n := 12) (by decide +kernel) (by decide +kernel) (md_o hc) rfl ?_
        refine pe_iload_n (j := 3) (by decide +kernel) rfl ?_
        refine mz_ld152 (by decide +kernel) hc hI hz10 (by omega) (by omega) (fun v18 ev18 => ?_)
        rw [ev18.trans ev11.symm]
        clear ev18 v18
        refine pe_aload_n (j := 0) (by decide +kernel) rfl ?_
        refine pe_get (j := 26) (ci := 12) (n := 13) (by decide +kernel) (by decide +kernel) (md_o hc) rfl ?_
        refine pe_bipushv (n := 10) (v := 10) (by decide +kernel) (by decide +kernel) ?_
        refine pe_iload_n (j := 1) (by decide +kernel) rfl ?_
        refine pz_mul (by decide +kernel) kz_10 rfl (by omega) (by omega) (fun z19 hz19 => ?_)
        refine pe_iconstv (n := 1) (v := 1) (by decide +kernel) (by decide +kernel) ?_
        refine pz_add (by decide +kernel) hz19 kz_1 (by omega) (by omega) (fun z20 hz20 => ?_)
        clear hz19
        refine mz_ld153 (by decide +kernel) hc hI hz20 (by omega) (by omega) (fun v21 ev21 pv21 => ?_)
        rw [show A 153 = A0 153 from (hF 153 (by decide))] at ev21
        rw [ev21.trans ev14.symm]
        clear pv21 ev21 v21
        clear hz20
        refine pw_sub (by decide +kernel) (fun z22 => ?_)
        refine mz_st152 (by decide +kernel) hc hI hz10 (by omega) (by omega) (fun A23 eA23 hIA23 => ?_)
        refine pz_iinc (j := 2) (n := 1) (by decide +kernel) rfl rfl (by decide +kernel) (by omega) (by omega) (fun z24 hz24 => ?_)
        show pmE pg X pg_tyl pg_cl (d + 2) 237 83 [.ref 147, .int x1, .int z24, .int z10] [] (md wc f A23) _
        refine pe_goto (off := (-81)) (t := 2) (by decide +kernel) (by decide) rfl ?_
        exact ih A23 z24 (.int z10) hIA23 (fun k n152 => (upa_fr eA23 n152).trans ((hF k n152))) (by omega) (by omega)
      · skip
        refine pe_iconstv (n := 0) (v := 0) (by decide +kernel) (by decide +kernel) ?_
        refine pe_goto (off := 21) (t := 79) (by decide +kernel) (by decide) rfl ?_
        refine mz_st152 (by decide +kernel) hc hI hz10 (by omega) (by omega) (fun A25 eA25 hIA25 => ?_)
        refine pz_iinc (j := 2) (n := 1) (by decide +kernel) rfl rfl (by decide +kernel) (by omega) (by omega) (fun z26 hz26 => ?_)
        show pmE pg X pg_tyl pg_cl (d + 2) 237 83 [.ref 147, .int x1, .int z26, .int z10] [] (md wc f A25) _
        refine pe_goto (off := (-81)) (t := 2) (by decide +kernel) (by decide) rfl ?_
        exact ih A25 z26 (.int z10) hIA25 (fun k n152 => (upa_fr eA25 n152).trans ((hF k n152))) (by omega) (by omega)
set_option maxRecDepth 100000 in
set_option maxHeartbeats 8000000 in
theorem MM_237 {X : pm_X} {d : Nat} {wc : pm_W} {f : Nat → Int32} {A : Nat → List Int32} {x1 : Int32} (hc : wc.length = 147) (hI : MI f A) (gx1 : (0 ≤ x1.toInt ∧ x1.toInt ≤ 30)) : pmE pg X pg_tyl pg_cl (d + 2) 237 0 (pm_ent (pm_max pg 237) [.ref 147, .int x1]) [] (md wc f A) (fun q => ∃ (A' : Nat → List Int32), q = (none, md wc f A', 0, 0) ∧ MI f A' ∧ (∀ k : Nat, k ≠ 152 → k ≠ 153 → A' k = A k) ∧ ((True))) := by
  show pmE pg X pg_tyl pg_cl (d + 2) 237 0 [.ref 147, .int x1, pm_dead, pm_dead] [] (md wc f A) _
  refine pe_iconstv (n := 0) (v := 0) (by decide +kernel) (by decide +kernel) ?_
  refine pe_istore_n (j := 2) (ls' := [.ref 147, .int x1, .int 0, pm_dead]) (by decide +kernel) (Nat.le_of_ble_eq_true rfl) rfl ?_
  refine ML_237_2 hc (by omega) (fun A1 y3 u4 hIy2 hFhIy2 gy3 => ?_) 7 A 0 (pm_dead) hI (fun k _ => rfl) (by decide +kernel) (by decide +kernel)
  refine pe_aload_n (j := 0) (by decide +kernel) rfl ?_
  refine pe_get (j := 26) (ci := 12) (n := 13) (by decide +kernel) (by decide +kernel) (md_o hc) rfl ?_
  refine pe_bipushv (n := 10) (v := 10) (by decide +kernel) (by decide +kernel) ?_
  refine pe_iload_n (j := 1) (by decide +kernel) rfl ?_
  refine pz_mul (by decide +kernel) kz_10 rfl (by omega) (by omega) (fun z5 hz5 => ?_)
  refine pe_iconstv (n := 3) (v := 3) (by decide +kernel) (by decide +kernel) ?_
  refine pz_add (by decide +kernel) hz5 kz_3 (by omega) (by omega) (fun z6 hz6 => ?_)
  clear hz5
  refine pe_iconstv (n := 0) (v := 0) (by decide +kernel) (by decide +kernel) ?_
  refine mz_st153 (by decide +kernel) hc hIy2 hz6 (by omega) (by omega) (by rw [kz_0]; simp only [MP_rings]; omega) (fun A7 eA7 hIA7 => ?_)
  exact pe_vret (by decide +kernel) rfl ⟨A7, rfl, hIA7, (fun k n152 n153 => (upa_fr eA7 n153).trans ((hFhIy2 k n152))), trivial⟩
set_option maxRecDepth 100000 in
set_option maxHeartbeats 8000000 in
theorem ML_240_12 {X : pm_X} {d : Nat} {wc : pm_W} {Q : pm_R → Prop} {f : Nat → Int32} {A0 : Nat → List Int32} (hc : wc.length = 147) (k_57_0 : ∀ (A' : Nat → List Int32) (y1 : Int32), MI f A' → (∀ k : Nat, k ≠ 152 → k ≠ 153 → A' k = A0 k) → (0 ≤ y1.toInt ∧ y1.toInt ≤ 30) → pmE pg X pg_tyl pg_cl (d + 3) 240 57 [.ref 147, .int y1] [] (md wc f A') Q) : ∀ (m : Nat) (A : Nat → List Int32) (x1 : Int32), MI f A → (∀ k : Nat, k ≠ 152 → k ≠ 153 → A k = A0 k) → (0 ≤ x1.toInt ∧ x1.toInt ≤ 30) → 30 - x1.toInt < (m : Int) → pmE pg X pg_tyl pg_cl (d + 3) 240 12 [.ref 147, .int x1] [] (md wc f A) Q := by
  intro m
  induction m with
  | zero =>
    intro A x1 hI hF gx1 hm
    exfalso
    have l0 := zi_lo x1
    have u0 := zi_hi x1
    omega
  | succ m ih =>
    intro A x1 hI hF gx1 hm
    refine pe_iload_n (j := 1) (by decide +kernel) rfl ?_
    refine pe_aload_n (j := 0) (by decide +kernel) rfl ?_
    refine pe_get (j := 175) (ci := 12) (n := 14) (by decide +kernel) (by decide +kernel) (md_o hc) rfl ?_
    have hr_14_f := hI.1 14
    simp only [MF] at hr_14_f
    refine pz_icmp_ge (off := 40) (t := 57) (by decide +kernel) (by decide) rfl rfl rfl (fun h1 => ?_) (fun h1 => ?_)
    · skip
      exact k_57_0 A x1 hI (fun k n152 n153 => (hF k n152 n153)) (by omega)
    · skip
      refine pe_aload_n (j := 0) (by decide +kernel) rfl ?_
      refine pe_iload_n (j := 1) (by decide +kernel) rfl ?_
      refine pi_V (j := 190) (mj := 236) (by decide +kernel) (cll_V (args := [.int x1]) (n := 1) (by decide +kernel) rfl rfl (md_o hc) (by decide +kernel) (Nat.le_of_ble_eq_true rfl) (Nat.le_of_ble_eq_true rfl)) ?_
      show pmE pg X pg_tyl pg_cl (d + 2) 236 0 [.ref 147, .int x1] [] (md wc f A) _
      refine pe_aload_n (j := 0) (by decide +kernel) rfl ?_
      refine pe_get (j := 26) (ci := 12) (n := 13) (by decide +kernel) (by decide +kernel) (md_o hc) rfl ?_
      refine pe_bipushv (n := 10) (v := 10) (by decide +kernel) (by decide +kernel) ?_
      refine pe_iload_n (j := 1) (by decide +kernel) rfl ?_
      refine pz_mul (by decide +kernel) kz_10 rfl (by omega) (by omega) (fun z2 hz2 => ?_)
      refine pe_iconstv (n := 3) (v := 3) (by decide +kernel) (by decide +kernel) ?_
      refine pz_add (by decide +kernel) hz2 kz_3 (by omega) (by omega) (fun z3 hz3 => ?_)
      clear hz2
      refine mz_ld153 (by decide +kernel) hc hI hz3 (by omega) (by omega) (fun v4 ev4 pv4 => ?_)
      clear hz3
      refine pe_iconstv (n := 1) (v := 1) (by decide +kernel) (by decide +kernel) ?_
      have lw6 := zi_lo v4
      have uw6 := zi_hi v4
      refine pz_icmp_ne (off := 7) (t := 19) (by decide +kernel) (by decide) rfl rfl kz_1 (fun h5 => ?_) (fun h5 => ?_)
      · skip
        refine pe_iconstv (n := 0) (v := 0) (by decide +kernel) (by decide +kernel) ?_
        refine pe_iret (by decide +kernel) rfl rfl ⟨rfl, rfl, ?_⟩
        show pmE pg X pg_tyl pg_cl (d + 3) 240 25 [.ref 147, .int x1] [.int 0] (md wc f A) _
        refine pz_if_eq (off := 26) (t := 51) (by decide +kernel) (by decide) rfl kz_0 (fun h7 => ?_) (fun h7 => by omega)
        refine pz_iinc (j := 1) (n := 1) (by decide +kernel) rfl rfl (by decide +kernel) (by omega) (by omega) (fun z8 hz8 => ?_)
        show pmE pg X pg_tyl pg_cl (d + 3) 240 54 [.ref 147, .int z8] [] (md wc f A) _
        refine pe_goto (off := (-42)) (t := 12) (by decide +kernel) (by decide) rfl ?_
        exact ih A z8 hI (fun k n152 n153 => (hF k n152 n153)) (by omega) (by omega)
      · skip
        refine pe_iconstv (n := 1) (v := 1) (by decide +kernel) (by decide +kernel) ?_
        refine pe_goto (off := 4) (t := 20) (by decide +kernel) (by decide) rfl ?_
        refine pe_iret (by decide +kernel) rfl rfl ⟨rfl, rfl, ?_⟩
        show pmE pg X pg_tyl pg_cl (d + 3) 240 25 [.ref 147, .int x1] [.int 1] (md wc f A) _
        refine pz_if_eq (off := 26) (t := 51) (by decide +kernel) (by decide) rfl kz_1 (fun h9 => by omega) (fun h9 => ?_)
        refine pe_aload_n (j := 0) (by decide +kernel) rfl ?_
        refine pe_get (j := 26) (ci := 12) (n := 13) (by decide +kernel) (by decide +kernel) (md_o hc) rfl ?_
        refine pe_bipushv (n := 10) (v := 10) (by decide +kernel) (by decide +kernel) ?_
        refine pe_iload_n (j := 1) (by decide +kernel) rfl ?_
        refine pz_mul (by decide +kernel) kz_10 rfl (by omega) (by omega) (fun z10 hz10 => ?_)
        refine pe_iconstv (n := 2) (v := 2) (by decide +kernel) (by decide +kernel) ?_
        refine pz_add (by decide +kernel) hz10 kz_2 (by omega) (by omega) (fun z11 hz11 => ?_)
        clear hz10
        refine mz_ld153 (by decide +kernel) hc hI hz11 (by omega) (by omega) (fun v12 ev12 pv12 => ?_)
        clear hz11
        refine pe_aload_n (j := 0) (by decide +kernel) rfl ?_
        refine pe_get (j := 178) (ci := 12) (n := 15) (by decide +kernel) (by decide +kernel) (md_o hc) rfl ?_
        have lw14 := zi_lo v12
        have uw14 := zi_hi v12
        have lw15 := zi_lo (f 15)
        have uw15 := zi_hi (f 15)
        refine pz_icmp_ge (off := 8) (t := 51) (by decide +kernel) (by decide) rfl rfl rfl (fun h13 => ?_) (fun h13 => ?_)
        · skip
          refine pz_iinc (j := 1) (n := 1) (by decide +kernel) rfl rfl (by decide +kernel) (by omega) (by omega) (fun z16 hz16 => ?_)
          show pmE pg X pg_tyl pg_cl (d + 3) 240 54 [.ref 147, .int z16] [] (md wc f A) _
          refine pe_goto (off := (-42)) (t := 12) (by decide +kernel) (by decide) rfl ?_
          exact ih A z16 hI (fun k n152 n153 => (hF k n152 n153)) (by omega) (by omega)
        · skip
          refine pe_aload_n (j := 0) (by decide +kernel) rfl ?_
          refine pe_iload_n (j := 1) (by decide +kernel) rfl ?_
          refine pz_callV (j := 196) (mj := 237) (by decide +kernel) (cll_V (args := [.int x1]) (n := 1) (by decide +kernel) rfl rfl (md_o hc) (by decide +kernel) (Nat.le_of_ble_eq_true rfl) (Nat.le_of_ble_eq_true rfl)) (MM_237 hc hI (by omega)) (fun q17a q17b q17c q17d hqq17 => ?_)
          obtain ⟨A18, eq17, hIq17, hFq17, kq17⟩ := hqq17
          cases eq17
          refine ⟨rfl, rfl, ?_⟩
          show pmE pg X pg_tyl pg_cl (d + 3) 240 51 [.ref 147, .int x1] [] (md wc f A18) _
          refine pz_iinc (j := 1) (n := 1) (by decide +kernel) rfl rfl (by decide +kernel) (by omega) (by omega) (fun z19 hz19 => ?_)
          show pmE pg X pg_tyl pg_cl (d + 3) 240 54 [.ref 147, .int z19] [] (md wc f A18) _
          refine pe_goto (off := (-42)) (t := 12) (by decide +kernel) (by decide) rfl ?_
          exact ih A18 z19 hIq17 (fun k n152 n153 => ((hFq17 k n152 n153)).trans ((hF k n152 n153))) (by omega) (by omega)
set_option maxRecDepth 100000 in
set_option maxHeartbeats 8000000 in
theorem MM_240 {X : pm_X} {d : Nat} {wc : pm_W} {f : Nat → Int32} {A : Nat → List Int32} (hc : wc.length = 147) (hI : MI f A) : pmE pg X pg_tyl pg_cl (d + 3) 240 0 (pm_ent (pm_max pg 240) [.ref 147]) [] (md wc f A) (fun q => ∃ (f' : Nat → Int32) (A' : Nat → List Int32), q = (none, md wc f' A', 0, 0) ∧ MI f' A' ∧ (∀ k : Nat, k ≠ 15 → f' k = f k) ∧ (∀ k : Nat, k ≠ 152 → k ≠ 153 → A' k = A k) ∧ ((True))) := by
  show pmE pg X pg_tyl pg_cl (d + 3) 240 0 [.ref 147, pm_dead] [] (md wc f A) _
  refine pe_aload_n (j := 0) (by decide +kernel) rfl ?_
  refine pe_dup (by decide +kernel) rfl ?_
  refine pe_get (j := 178) (ci := 12) (n := 15) (by decide +kernel) (by decide +kernel) (md_o hc) rfl ?_
  refine pe_iconstv (n := 1) (v := 1) (by decide +kernel) (by decide +kernel) ?_
  refine pw_add (by decide +kernel) (fun z1 => ?_)
  refine mz_put15 (jj := 178) (by decide +kernel) (by decide +kernel) hc hI (fun f2 ef2 hIf2 => ?_)
  refine pe_iconstv (n := 0) (v := 0) (by decide +kernel) (by decide +kernel) ?_
  refine pe_istore_n (j := 1) (ls' := [.ref 147, .int 0]) (by decide +kernel) (Nat.le_of_ble_eq_true rfl) rfl ?_
  refine ML_240_12 hc (fun A3 y5 hIy4 hFhIy4 gy5 => ?_) 31 A 0 hIf2 (fun k _ _ => rfl) (by decide +kernel) (by decide +kernel)
  exact pe_vret (by decide +kernel) rfl ⟨f2, A3, rfl, hIy4, (fun k n15 => upf_fr ef2 n15), (fun k n152 n153 => (hFhIy4 k n152 n153)), trivial⟩
set_option maxRecDepth 100000 in
set_option maxHeartbeats 8000000 in
theorem ML_238_40 {X : pm_X} {d : Nat} {wc : pm_W} {Q : pm_R → Prop} {f : Nat → Int32} {A0 : Nat → List Int32} {x1 : Int32} (hc : wc.length = 147) (gx1 : (0 ≤ x1.toInt ∧ x1.toInt ≤ 8)) (k_76_0 : ∀ (A' : Nat → List Int32) (y2 : Int32), MI f A' → (∀ k : Nat, k ≠ 152 → A' k = A0 k) → (9 ≤ y2.toInt ∧ y2.toInt ≤ 9) → pmE pg X pg_tyl pg_cl (d + 3) 238 76 [.ref 147, .int x1, .int y2] [] (md wc f A') Q) : ∀ (m : Nat) (A : Nat → List Int32) (x2 : Int32), MI f A → (∀ k : Nat, k ≠ 152 → A k = A0 k) → (0 ≤ x2.toInt ∧ x2.toInt ≤ 9) → 9 - x2.toInt < (m : Int) → pmE pg X pg_tyl pg_cl (d + 3) 238 40 [.ref 147, .int x1, .int x2] [] (md wc f A) Q := by
  intro m
  induction m with
  | zero =>
    intro A x2 hI hF gx2 hm
    exfalso
    have l0 := zi_lo x2
    have u0 := zi_hi x2
    omega
  | succ m ih =>
    intro A x2 hI hF gx2 hm
    refine pe_iload_n (j := 2) (by decide +kernel) rfl ?_
    refine pe_bipushv (n := 9) (v := 9) (by decide +kernel) (by decide +kernel) ?_
    refine pz_icmp_ge (off := 33) (t := 76) (by decide +kernel) (by decide) rfl rfl kz_9 (fun h1 => ?_) (fun h1 => ?_)
    · skip
      exact k_76_0 A x2 hI (fun k n152 => (hF k n152)) (by omega)
    · skip
      refine pe_aload_n (j := 0) (by decide +kernel) rfl ?_
      refine pe_get (j := 23) (ci := 12) (n := 12) (by decide +kernel) (by decide +kernel) (md_o hc) rfl ?_
      refine pe_bipushv (n := 9) (v := 9) (by decide +kernel) (by decide +kernel) ?_
      refine pe_iload_n (j := 1) (by decide +kernel) rfl ?_
      refine pz_mul (by decide +kernel) kz_9 rfl (by omega) (by omega) (fun z2 hz2 => ?_)
      refine pe_iload_n (j := 2) (by decide +kernel) rfl ?_
      refine pz_add (by decide +kernel) hz2 rfl (by omega) (by omega) (fun z3 hz3 => ?_)
      clear hz2
      refine pe_iconstv (n := 0) (v := 0) (by decide +kernel) (by decide +kernel) ?_
      refine mz_st152 (by decide +kernel) hc hI hz3 (by omega) (by omega) (fun A4 eA4 hIA4 => ?_)
      refine pe_aload_n (j := 0) (by decide +kernel) rfl ?_
      refine pe_get (j := 23) (ci := 12) (n := 12) (by decide +kernel) (by decide +kernel) (md_o hc) rfl ?_
      refine pe_bipushv (n := 9) (v := 9) (by decide +kernel) (by decide +kernel) ?_
      refine pe_iload_n (j := 2) (by decide +kernel) rfl ?_
      refine pz_mul (by decide +kernel) kz_9 rfl (by omega) (by omega) (fun z5 hz5 => ?_)
      refine pe_iload_n (j := 1) (by decide +kernel) rfl ?_
      refine pz_add (by decide +kernel) hz5 rfl (by omega) (by omega) (fun z6 hz6 => ?_)
      clear hz5
      refine pe_iconstv (n := 0) (v := 0) (by decide +kernel) (by decide +kernel) ?_
      refine mz_st152 (by decide +kernel) hc hIA4 hz6 (by omega) (by omega) (fun A7 eA7 hIA7 => ?_)
      refine pz_iinc (j := 2) (n := 1) (by decide +kernel) rfl rfl (by decide +kernel) (by omega) (by omega) (fun z8 hz8 => ?_)
      show pmE pg X pg_tyl pg_cl (d + 3) 238 73 [.ref 147, .int x1, .int z8] [] (md wc f A7) _
      refine pe_goto (off := (-33)) (t := 40) (by decide +kernel) (by decide) rfl ?_
      exact ih A7 z8 hIA7 (fun k n152 => (upa_fr eA7 n152).trans ((upa_fr eA4 n152).trans ((hF k n152)))) (by omega) (by omega)
set_option maxRecDepth 100000 in
set_option maxHeartbeats 8000000 in
theorem ML_238_2 {X : pm_X} {d : Nat} {wc : pm_W} {Q : pm_R → Prop} {f : Nat → Int32} {A0 : Nat → List Int32} {x1 : Int32} (hc : wc.length = 147) (gx1 : (0 ≤ x1.toInt ∧ x1.toInt ≤ 8)) (k_38_0 : ∀ (A' : Nat → List Int32) (y2 : Int32), MI f A' → (∀ k : Nat, k ≠ 152 → k ≠ 153 → A' k = A0 k) → (0 ≤ y2.toInt ∧ y2.toInt ≤ 30) → pmE pg X pg_tyl pg_cl (d + 3) 238 38 [.ref 147, .int x1, .int y2] [] (md wc f A') Q) : ∀ (m : Nat) (A : Nat → List Int32) (x2 : Int32), MI f A → (∀ k : Nat, k ≠ 152 → k ≠ 153 → A k = A0 k) → (0 ≤ x2.toInt ∧ x2.toInt ≤ 30) → 30 - x2.toInt < (m : Int) → pmE pg X pg_tyl pg_cl (d + 3) 238 2 [.ref 147, .int x1, .int x2] [] (md wc f A) Q := by
  intro m
  induction m with
  | zero =>
    intro A x2 hI hF gx2 hm
    exfalso
    have l0 := zi_lo x2
    have u0 := zi_hi x2
    omega
  | succ m ih =>
    intro A x2 hI hF gx2 hm
    refine pe_iload_n (j := 2) (by decide +kernel) rfl ?_
    refine pe_aload_n (j := 0) (by decide +kernel) rfl ?_
    refine pe_get (j := 175) (ci := 12) (n := 14) (by decide +kernel) (by decide +kernel) (md_o hc) rfl ?_
    have hr_14_f := hI.1 14
    simp only [MF] at hr_14_f
    refine pz_icmp_ge (off := 31) (t := 38) (by decide +kernel) (by decide) rfl rfl rfl (fun h1 => ?_) (fun h1 => ?_)
    · skip
      exact k_38_0 A x2 hI (fun k n152 n153 => (hF k n152 n153)) (by omega)
    · skip
      refine pe_aload_n (j := 0) (by decide +kernel) rfl ?_
      refine pe_iload_n (j := 2) (by decide +kernel) rfl ?_
      refine pi_V (j := 190) (mj := 236) (by decide +kernel) (cll_V (args := [.int x2]) (n := 1) (by decide +kernel) rfl rfl (md_o hc) (by decide +kernel) (Nat.le_of_ble_eq_true rfl) (Nat.le_of_ble_eq_true rfl)) ?_
      show pmE pg X pg_tyl pg_cl (d + 2) 236 0 [.ref 147, .int x2] [] (md wc f A) _
      refine pe_aload_n (j := 0) (by decide +kernel) rfl ?_
      refine pe_get (j := 26) (ci := 12) (n := 13) (by decide +kernel) (by decide +kernel) (md_o hc) rfl ?_
      refine pe_bipushv (n := 10) (v := 10) (by decide +kernel) (by decide +kernel) ?_
      refine pe_iload_n (j := 1) (by decide +kernel) rfl ?_
      refine pz_mul (by decide +kernel) kz_10 rfl (by omega) (by omega) (fun z2 hz2 => ?_)
      refine pe_iconstv (n := 3) (v := 3) (by decide +kernel) (by decide +kernel) ?_
      refine pz_add (by decide +kernel) hz2 kz_3 (by omega) (by omega) (fun z3 hz3 => ?_)
      clear hz2
      refine mz_ld153 (by decide +kernel) hc hI hz3 (by omega) (by omega) (fun v4 ev4 pv4 => ?_)
      clear hz3
      refine pe_iconstv (n := 1) (v := 1) (by decide +kernel) (by decide +kernel) ?_
      have lw6 := zi_lo v4
      have uw6 := zi_hi v4
      refine pz_icmp_ne (off := 7) (t := 19) (by decide +kernel) (by decide) rfl rfl kz_1 (fun h5 => ?_) (fun h5 => ?_)
      · skip
        refine pe_iconstv (n := 0) (v := 0) (by decide +kernel) (by decide +kernel) ?_
        refine pe_iret (by decide +kernel) rfl rfl ⟨rfl, rfl, ?_⟩
        show pmE pg X pg_tyl pg_cl (d + 3) 238 15 [.ref 147, .int x1, .int x2] [.int 0] (md wc f A) _
        refine pz_if_eq (off := 17) (t := 32) (by decide +kernel) (by decide) rfl kz_0 (fun h7 => ?_) (fun h7 => by omega)
        refine pz_iinc (j := 2) (n := 1) (by decide +kernel) rfl rfl (by decide +kernel) (by omega) (by omega) (fun z8 hz8 => ?_)
        show pmE pg X pg_tyl pg_cl (d + 3) 238 35 [.ref 147, .int x1, .int z8] [] (md wc f A) _
        refine pe_goto (off := (-33)) (t := 2) (by decide +kernel) (by decide) rfl ?_
        exact ih A z8 hI (fun k n152 n153 => (hF k n152 n153)) (by omega) (by omega)
      · skip
        refine pe_iconstv (n := 1) (v := 1) (by decide +kernel) (by decide +kernel) ?_
        refine pe_goto (off := 4) (t := 20) (by decide +kernel) (by decide) rfl ?_
        refine pe_iret (by decide +kernel) rfl rfl ⟨rfl, rfl, ?_⟩
        show pmE pg X pg_tyl pg_cl (d + 3) 238 15 [.ref 147, .int x1, .int x2] [.int 1] (md wc f A) _
        refine pz_if_eq (off := 17) (t := 32) (by decide +kernel) (by decide) rfl kz_1 (fun h9 => by omega) (fun h9 => ?_)
        refine pe_aload_n (j := 0) (by decide +kernel) rfl ?_
        refine pe_iload_n (j := 2) (by decide +kernel) rfl ?_
        refine pe_iload_n (j := 1) (by decide +kernel) rfl ?_
        refine pz_callV (j := 193) (mj := 239) (by decide +kernel) (cll_V (args := [.int x1, .int x2]) (n := 2) (by decide +kernel) rfl rfl (md_o hc) (by decide +kernel) (Nat.le_of_ble_eq_true rfl) (Nat.le_of_ble_eq_true rfl)) (MM_239 hc hI (by omega)) (fun q10a q10b q10c q10d hqq10 => ?_)
        obtain ⟨rq10, eq10, kq10⟩ := hqq10
        cases eq10
        refine ⟨rfl, rfl, ?_⟩
        show pmE pg X pg_tyl pg_cl (d + 3) 238 24 [.ref 147, .int x1, .int x2] [.int rq10] (md wc f A) _
        refine pz_if_eq (off := 8) (t := 32) (by decide +kernel) (by decide) rfl rfl (fun h11 => ?_) (fun h11 => ?_)
        · skip
          refine pz_iinc (j := 2) (n := 1) (by decide +kernel) rfl rfl (by decide +kernel) (by omega) (by omega) (fun z12 hz12 => ?_)
          show pmE pg X pg_tyl pg_cl (d + 3) 238 35 [.ref 147, .int x1, .int z12] [] (md wc f A) _
          refine pe_goto (off := (-33)) (t := 2) (by decide +kernel) (by decide) rfl ?_
          exact ih A z12 hI (fun k n152 n153 => (hF k n152 n153)) (by omega) (by omega)
        · skip
          refine pe_aload_n (j := 0) (by decide +kernel) rfl ?_
          refine pe_iload_n (j := 2) (by decide +kernel) rfl ?_
          refine pz_callV (j := 196) (mj := 237) (by decide +kernel) (cll_V (args := [.int x2]) (n := 1) (by decide +kernel) rfl rfl (md_o hc) (by decide +kernel) (Nat.le_of_ble_eq_true rfl) (Nat.le_of_ble_eq_true rfl)) (MM_237 hc hI (by omega)) (fun q13a q13b q13c q13d hqq13 => ?_)
          obtain ⟨A14, eq13, hIq13, hFq13, kq13⟩ := hqq13
          cases eq13
          refine ⟨rfl, rfl, ?_⟩
          show pmE pg X pg_tyl pg_cl (d + 3) 238 32 [.ref 147, .int x1, .int x2] [] (md wc f A14) _
          refine pz_iinc (j := 2) (n := 1) (by decide +kernel) rfl rfl (by decide +kernel) (by omega) (by omega) (fun z15 hz15 => ?_)
          show pmE pg X pg_tyl pg_cl (d + 3) 238 35 [.ref 147, .int x1, .int z15] [] (md wc f A14) _
          refine pe_goto (off := (-33)) (t := 2) (by decide +kernel) (by decide) rfl ?_
          exact ih A14 z15 hIq13 (fun k n152 n153 => ((hFq13 k n152 n153)).trans ((hF k n152 n153))) (by omega) (by omega)
set_option maxRecDepth 100000 in
set_option maxHeartbeats 8000000 in
theorem MM_238 {X : pm_X} {d : Nat} {wc : pm_W} {f : Nat → Int32} {A : Nat → List Int32} {x1 : Int32} (hc : wc.length = 147) (hI : MI f A) (gx1 : (0 ≤ x1.toInt ∧ x1.toInt ≤ 8)) : pmE pg X pg_tyl pg_cl (d + 3) 238 0 (pm_ent (pm_max pg 238) [.ref 147, .int x1]) [] (md wc f A) (fun q => ∃ (A' : Nat → List Int32), q = (none, md wc f A', 0, 0) ∧ MI f A' ∧ (∀ k : Nat, k ≠ 152 → k ≠ 153 → A' k = A k) ∧ ((True))) := by
  show pmE pg X pg_tyl pg_cl (d + 3) 238 0 [.ref 147, .int x1, pm_dead] [] (md wc f A) _
  refine pe_iconstv (n := 0) (v := 0) (by decide +kernel) (by decide +kernel) ?_
  refine pe_istore_n (j := 2) (ls' := [.ref 147, .int x1, .int 0]) (by decide +kernel) (Nat.le_of_ble_eq_true rfl) rfl ?_
  refine ML_238_2 hc (by omega) (fun A1 y3 hIy2 hFhIy2 gy3 => ?_) 31 A 0 hI (fun k _ _ => rfl) (by decide +kernel) (by decide +kernel)
  refine pe_iconstv (n := 0) (v := 0) (by decide +kernel) (by decide +kernel) ?_
  refine pe_istore_n (j := 2) (ls' := [.ref 147, .int x1, .int 0]) (by decide +kernel) (Nat.le_of_ble_eq_true rfl) rfl ?_
  refine ML_238_40 hc (by omega) (fun A4 y6 hIy5 hFhIy5 gy6 => ?_) 10 A1 0 hIy2 (fun k _ => rfl) (by decide +kernel) (by decide +kernel)
  exact pe_vret (by decide +kernel) rfl ⟨A4, rfl, hIy5, (fun k n152 n153 => ((hFhIy5 k n152)).trans ((hFhIy2 k n152 n153))), trivial⟩
set_option maxRecDepth 100000 in
set_option maxHeartbeats 8000000 in
theorem ML_299_4 {X : pm_X} {d : Nat} {wc : pm_W} {Q : pm_R → Prop} {f : Nat → Int32} {A : Nat → List Int32} {x1 : Int32} (hc : wc.length = 147) (hI : MI f A) (k_45_0 : ∀ (y2 : Int32) (y3 : Int32), (0 ≤ y3.toInt ∧ y3.toInt ≤ 30) → pmE pg X pg_tyl pg_cl (d + 2) 299 45 [.ref 147, .int x1, .int y2, .int y3] [] (md wc f A) Q) : ∀ (m : Nat) (x2 : Int32) (x3 : Int32), (0 ≤ x3.toInt ∧ x3.toInt ≤ 30) → 30 - x3.toInt < (m : Int) → pmE pg X pg_tyl pg_cl (d + 2) 299 4 [.ref 147, .int x1, .int x2, .int x3] [] (md wc f A) Q := by
  intro m
  induction m with
  | zero =>
    intro x2 x3 gx3 hm
    exfalso
    have l0 := zi_lo x3
    have u0 := zi_hi x3
    omega
  | succ m ih =>
    intro x2 x3 gx3 hm
    refine pe_iload_n (j := 3) (by decide +kernel) rfl ?_
    refine pe_aload_n (j := 0) (by decide +kernel) rfl ?_
    refine pe_get (j := 175) (ci := 12) (n := 14) (by decide +kernel) (by decide +kernel) (md_o hc) rfl ?_
    have hr_14_f := hI.1 14
    simp only [MF] at hr_14_f
    refine pz_icmp_ge (off := 36) (t := 45) (by decide +kernel) (by decide) rfl rfl rfl (fun h1 => ?_) (fun h1 => ?_)
    · skip
      exact k_45_0 x2 x3 (by omega)
    · skip
      refine pe_iload_n (j := 2) (by decide +kernel) rfl ?_
      refine pe_aload_n (j := 0) (by decide +kernel) rfl ?_
      refine pe_iload_n (j := 3) (by decide +kernel) rfl ?_
      refine pi_V (j := 190) (mj := 236) (by decide +kernel) (cll_V (args := [.int x3]) (n := 1) (by decide +kernel) rfl rfl (md_o hc) (by decide +kernel) (Nat.le_of_ble_eq_true rfl) (Nat.le_of_ble_eq_true rfl)) ?_
      show pmE pg X pg_tyl pg_cl (d + 1) 236 0 [.ref 147, .int x3] [] (md wc f A) _
      refine pe_aload_n (j := 0) (by decide +kernel) rfl ?_
      refine pe_get (j := 26) (ci := 12) (n := 13) (by decide +kernel) (by decide +kernel) (md_o hc) rfl ?_
      refine pe_bipushv (n := 10) (v := 10) (by decide +kernel) (by decide +kernel) ?_
      refine pe_iload_n (j := 1) (by decide +kernel) rfl ?_
      refine pz_mul (by decide +kernel) kz_10 rfl (by omega) (by omega) (fun z2 hz2 => ?_)
      refine pe_iconstv (n := 3) (v := 3) (by decide +kernel) (by decide +kernel) ?_
      refine pz_add (by decide +kernel) hz2 kz_3 (by omega) (by omega) (fun z3 hz3 => ?_)
      clear hz2
      refine mz_ld153 (by decide +kernel) hc hI hz3 (by omega) (by omega) (fun v4 ev4 pv4 => ?_)
      clear hz3
      refine pe_iconstv (n := 1) (v := 1) (by decide +kernel) (by decide +kernel) ?_
      have lw6 := zi_lo v4
      have uw6 := zi_hi v4
      refine pz_icmp_ne (off := 7) (t := 19) (by decide +kernel) (by decide) rfl rfl kz_1 (fun h5 => ?_) (fun h5 => ?_)
      · skip
        refine pe_iconstv (n := 0) (v := 0) (by decide +kernel) (by decide +kernel) ?_
        refine pe_iret (by decide +kernel) rfl rfl ⟨rfl, rfl, ?_⟩
        show pmE pg X pg_tyl pg_cl (d + 2) 299 18 [.ref 147, .int x1, .int x2, .int x3] [.int 0, .int x2] (md wc f A) _
        refine pz_if_eq (off := 18) (t := 36) (by decide +kernel) (by decide) rfl kz_0 (fun h7 => ?_) (fun h7 => by omega)
        refine pe_iconstv (n := 0) (v := 0) (by decide +kernel) (by decide +kernel) ?_
        refine pw_or (by decide +kernel) (fun z8 => ?_)
        refine pe_istore_n (j := 2) (ls' := [.ref 147, .int x1, .int z8, .int x3]) (by decide +kernel) (Nat.le_of_ble_eq_true rfl) rfl ?_
        refine pz_iinc (j := 3) (n := 1) (by decide +kernel) rfl rfl (by decide +kernel) (by omega) (by omega) (fun z9 hz9 => ?_)
        show pmE pg X pg_tyl pg_cl (d + 2) 299 42 [.ref 147, .int x1, .int z8, .int z9] [] (md wc f A) _
        refine pe_goto (off := (-38)) (t := 4) (by decide +kernel) (by decide) rfl ?_
        exact ih z8 z9 (by omega) (by omega)
      · skip
        refine pe_iconstv (n := 1) (v := 1) (by decide +kernel) (by decide +kernel) ?_
        refine pe_goto (off := 4) (t := 20) (by decide +kernel) (by decide) rfl ?_
        refine pe_iret (by decide +kernel) rfl rfl ⟨rfl, rfl, ?_⟩
        show pmE pg X pg_tyl pg_cl (d + 2) 299 18 [.ref 147, .int x1, .int x2, .int x3] [.int 1, .int x2] (md wc f A) _
        refine pz_if_eq (off := 18) (t := 36) (by decide +kernel) (by decide) rfl kz_1 (fun h10 => by omega) (fun h10 => ?_)
        refine pe_aload_n (j := 0) (by decide +kernel) rfl ?_
        refine pe_iload_n (j := 3) (by decide +kernel) rfl ?_
        refine pe_iload_n (j := 1) (by decide +kernel) rfl ?_
        refine pz_callV (j := 193) (mj := 239) (by decide +kernel) (cll_V (args := [.int x1, .int x3]) (n := 2) (by decide +kernel) rfl rfl (md_o hc) (by decide +kernel) (Nat.le_of_ble_eq_true rfl) (Nat.le_of_ble_eq_true rfl)) (MM_239 hc hI (by omega)) (fun q11a q11b q11c q11d hqq11 => ?_)
        obtain ⟨rq11, eq11, kq11⟩ := hqq11
        cases eq11
        refine ⟨rfl, rfl, ?_⟩
        show pmE pg X pg_tyl pg_cl (d + 2) 299 27 [.ref 147, .int x1, .int x2, .int x3] [.int rq11, .int x2] (md wc f A) _
        refine pz_if_eq (off := 9) (t := 36) (by decide +kernel) (by decide) rfl rfl (fun h12 => ?_) (fun h12 => ?_)
        · skip
          refine pe_iconstv (n := 0) (v := 0) (by decide +kernel) (by decide +kernel) ?_
          refine pw_or (by decide +kernel) (fun z13 => ?_)
          refine pe_istore_n (j := 2) (ls' := [.ref 147, .int x1, .int z13, .int x3]) (by decide +kernel) (Nat.le_of_ble_eq_true rfl) rfl ?_
          refine pz_iinc (j := 3) (n := 1) (by decide +kernel) rfl rfl (by decide +kernel) (by omega) (by omega) (fun z14 hz14 => ?_)
          show pmE pg X pg_tyl pg_cl (d + 2) 299 42 [.ref 147, .int x1, .int z13, .int z14] [] (md wc f A) _
          refine pe_goto (off := (-38)) (t := 4) (by decide +kernel) (by decide) rfl ?_
          exact ih z13 z14 (by omega) (by omega)
        · skip
          refine pe_iconstv (n := 1) (v := 1) (by decide +kernel) (by decide +kernel) ?_
          refine pe_iload_n (j := 3) (by decide +kernel) rfl ?_
          refine pw_shl (by decide +kernel) (fun z15 => ?_)
          refine pe_goto (off := 4) (t := 37) (by decide +kernel) (by decide) rfl ?_
          refine pw_or (by decide +kernel) (fun z16 => ?_)
          refine pe_istore_n (j := 2) (ls' := [.ref 147, .int x1, .int z16, .int x3]) (by decide +kernel) (Nat.le_of_ble_eq_true rfl) rfl ?_
          refine pz_iinc (j := 3) (n := 1) (by decide +kernel) rfl rfl (by decide +kernel) (by omega) (by omega) (fun z17 hz17 => ?_)
          show pmE pg X pg_tyl pg_cl (d + 2) 299 42 [.ref 147, .int x1, .int z16, .int z17] [] (md wc f A) _
          refine pe_goto (off := (-38)) (t := 4) (by decide +kernel) (by decide) rfl ?_
          exact ih z16 z17 (by omega) (by omega)
set_option maxRecDepth 100000 in
set_option maxHeartbeats 8000000 in
theorem MM_299 {X : pm_X} {d : Nat} {wc : pm_W} {f : Nat → Int32} {A : Nat → List Int32} {x1 : Int32} (hc : wc.length = 147) (hI : MI f A) : pmE pg X pg_tyl pg_cl (d + 2) 299 0 (pm_ent (pm_max pg 299) [.ref 147, .int x1]) [] (md wc f A) (fun q => ∃ (r : Int32), q = (some (.int r), md wc f A, 0, 0) ∧ ((True ∧ True))) := by
  show pmE pg X pg_tyl pg_cl (d + 2) 299 0 [.ref 147, .int x1, pm_dead, pm_dead] [] (md wc f A) _
  refine pe_iconstv (n := 0) (v := 0) (by decide +kernel) (by decide +kernel) ?_
  refine pe_istore_n (j := 2) (ls' := [.ref 147, .int x1, .int 0, pm_dead]) (by decide +kernel) (Nat.le_of_ble_eq_true rfl) rfl ?_
  refine pe_iconstv (n := 0) (v := 0) (by decide +kernel) (by decide +kernel) ?_
  refine pe_istore_n (j := 3) (ls' := [.ref 147, .int x1, .int 0, .int 0]) (by decide +kernel) (Nat.le_of_ble_eq_true rfl) rfl ?_
  refine ML_299_4 hc hI (fun y1 y2 gy2 => ?_) 31 0 0 (by decide +kernel) (by decide +kernel)
  refine pe_iload_n (j := 2) (by decide +kernel) rfl ?_
  exact pe_iret (by decide +kernel) rfl rfl ⟨y1, rfl, ⟨trivial, trivial⟩⟩
end
