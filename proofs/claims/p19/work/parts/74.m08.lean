section
set_option maxRecDepth 100000 in
set_option maxHeartbeats 8000000 in
theorem ML_268_46 {X : pm_X} {d : Nat} {wc : pm_W} {Q : pm_R → Prop} {f : Nat → Int32} {A : Nat → List Int32} {x1 x2 x3 x4 x5 : Int32} (hc : wc.length = 147) (hI : MI f A) (gx1 : (610 ≤ x1.toInt ∧ x1.toInt ≤ 742 ∧ (x1.toInt - 610) % 132 = 0)) (gx2 : (1 ≤ x2.toInt ∧ x2.toInt ≤ 2)) (gx3 : (2 ≤ x3.toInt ∧ x3.toInt ≤ 6)) (gx4 : (0 ≤ x4.toInt)) (gx5 : (0 ≤ x5.toInt)) (k_105_0 : ∀ (y6 : Int32) (y7 : Int32), (2 ≤ y7.toInt ∧ y7.toInt ≤ 6) → x3.toInt ≤ y7.toInt → (∀ j : Int, (0) ≤ j → j < (y7.toInt) → 0 ≤ ((A 158).getD j.toNat 0).toInt ∧ ((A 158).getD j.toNat 0).toInt ≤ 8) → pmE pg X pg_tyl pg_cl (d + 2) 268 105 [.ref 147, .int x1, .int x2, .int x3, .int x4, .int x5, .int y6, .int y7] [] (md wc f A) Q) (kr_0 : Q (some (.int 0), md wc f A, 0, 0)) : ∀ (m : Nat) (x6 : Int32) (x7 : Int32), (0 ≤ x7.toInt ∧ x7.toInt ≤ 6) → (∀ j : Int, (0) ≤ j → j < (x7.toInt) → 0 ≤ ((A 158).getD j.toNat 0).toInt ∧ ((A 158).getD j.toNat 0).toInt ≤ 8) → 6 - x7.toInt < (m : Int) → pmE pg X pg_tyl pg_cl (d + 2) 268 46 [.ref 147, .int x1, .int x2, .int x3, .int x4, .int x5, .int x6, .int x7] [] (md wc f A) Q := by
  intro m
  induction m with
  | zero =>
    intro x6 x7 gx7 hv0 hm
    exfalso
    have l0 := zi_lo x7
    have u0 := zi_hi x7
    omega
  | succ m ih =>
    intro x6 x7 gx7 hv0 hm
    refine pe_iload (j := 7) (by decide +kernel) rfl ?_
    refine pe_iload_n (j := 3) (by decide +kernel) rfl ?_
    refine pz_icmp_ge (off := 56) (t := 105) (by decide +kernel) (by decide) rfl rfl rfl (fun h1 => ?_) (fun h1 => ?_)
    · skip
      have hq2 : (∀ j : Int, (0) ≤ j → j < (x7.toInt) → 0 ≤ ((A 158).getD j.toNat 0).toInt ∧ ((A 158).getD j.toNat 0).toInt ≤ 8) := by
        intro j h1 h2
        first
        | (exfalso; omega)
        | exact hv0 j (by omega) (by omega)
      exact k_105_0 x6 x7 (by omega) (by omega) hq2
    · skip
      refine pe_aload_n (j := 0) (by decide +kernel) rfl ?_
      refine pe_iload_n (j := 1) (by decide +kernel) rfl ?_
      refine pe_aload_n (j := 0) (by decide +kernel) rfl ?_
      refine pe_get (j := 41) (ci := 12) (n := 21) (by decide +kernel) (by decide +kernel) (md_o hc) rfl ?_
      refine pe_iload (j := 7) (by decide +kernel) rfl ?_
      refine mz_ld158 (by decide +kernel) hc hI rfl (by omega) (by omega) (fun v3 ev3 pv3 => ?_)
      have rv3 : 0 ≤ v3.toInt ∧ v3.toInt ≤ 9 := by have p := pv3; simp only [MP_round] at p; omega
      clear pv3
      refine pi_V (j := 166) (mj := 221) (by decide +kernel) (cll_V (args := [.int v3, .int x1]) (n := 2) (by decide +kernel) rfl rfl (md_o hc) (by decide +kernel) (Nat.le_of_ble_eq_true rfl) (Nat.le_of_ble_eq_true rfl)) ?_
      show pmE pg X pg_tyl pg_cl (d + 1) 221 0 [.ref 147, .int x1, .int v3] [] (md wc f A) _
      refine pe_iload_n (j := 2) (by decide +kernel) rfl ?_
      refine pe_iconstv (n := 0) (v := 0) (by decide +kernel) (by decide +kernel) ?_
      refine pe_aload_n (j := 0) (by decide +kernel) rfl ?_
      refine pe_get (j := 7) (ci := 12) (n := 0) (by decide +kernel) (by decide +kernel) (md_o hc) rfl ?_
      refine pe_iload_n (j := 1) (by decide +kernel) rfl ?_
      refine mz_ld148 (by decide +kernel) hc hI rfl (by omega) (by omega) (fun v4 ev4 pv4 => ?_)
      have rv4 : 0 ≤ v4.toInt ∧ v4.toInt ≤ 9 := MT_people pv4 (by omega)
      clear pv4
      refine pe_iconstv (n := 1) (v := 1) (by decide +kernel) (by decide +kernel) ?_
      refine pz_sub (by decide +kernel) rfl kz_1 (by omega) (by omega) (fun z5 hz5 => ?_)
      refine pi_S (j := 119) (mj := 199) (by decide +kernel) (by decide +kernel) rfl ?_
      show pmE pg X pg_tyl pg_cl (d) 199 0 [.int v3, .int 0, .int z5] [] (md wc f A) _
      refine pe_iload_n (j := 0) (by decide +kernel) rfl ?_
      refine pe_iload_n (j := 1) (by decide +kernel) rfl ?_
      refine pz_icmp_lt (off := 12) (t := 14) (by decide +kernel) (by decide) rfl rfl kz_0 (fun h6 => by omega) (fun h6 => ?_)
      refine pe_iload_n (j := 0) (by decide +kernel) rfl ?_
      refine pe_iload_n (j := 2) (by decide +kernel) rfl ?_
      refine pz_icmp_gt (off := 7) (t := 14) (by decide +kernel) (by decide) rfl rfl hz5 (fun h7 => ?_) (fun h7 => ?_)
      · skip
        refine pe_iconstv (n := 0) (v := 0) (by decide +kernel) (by decide +kernel) ?_
        refine pe_iret (by decide +kernel) rfl rfl ⟨rfl, rfl, ?_⟩
        show pmE pg X pg_tyl pg_cl (d + 1) 221 13 [.ref 147, .int x1, .int v3] [.int 0] (md wc f A) _
        refine pe_iret (by decide +kernel) rfl rfl ⟨rfl, rfl, ?_⟩
        show pmE pg X pg_tyl pg_cl (d + 2) 268 64 [.ref 147, .int x1, .int x2, .int x3, .int x4, .int x5, .int x6, .int x7] [.int 0] (md wc f A) _
        refine pz_if_eq (off := 19) (t := 83) (by decide +kernel) (by decide) rfl kz_0 (fun h8 => ?_) (fun h8 => by omega)
        refine pe_iconstv (n := 0) (v := 0) (by decide +kernel) (by decide +kernel) ?_
        exact pe_iret (by decide +kernel) rfl rfl kr_0
      · skip
        refine pe_iconstv (n := 1) (v := 1) (by decide +kernel) (by decide +kernel) ?_
        refine pe_goto (off := 4) (t := 15) (by decide +kernel) (by decide) rfl ?_
        refine pe_iret (by decide +kernel) rfl rfl ⟨rfl, rfl, ?_⟩
        show pmE pg X pg_tyl pg_cl (d + 1) 221 13 [.ref 147, .int x1, .int v3] [.int 1] (md wc f A) _
        refine pe_iret (by decide +kernel) rfl rfl ⟨rfl, rfl, ?_⟩
        show pmE pg X pg_tyl pg_cl (d + 2) 268 64 [.ref 147, .int x1, .int x2, .int x3, .int x4, .int x5, .int x6, .int x7] [.int 1] (md wc f A) _
        refine pz_if_eq (off := 19) (t := 83) (by decide +kernel) (by decide) rfl kz_1 (fun h9 => by omega) (fun h9 => ?_)
        refine pe_iload (j := 6) (by decide +kernel) rfl ?_
        refine pe_aload_n (j := 0) (by decide +kernel) rfl ?_
        refine pe_get (j := 41) (ci := 12) (n := 21) (by decide +kernel) (by decide +kernel) (md_o hc) rfl ?_
        refine pe_iload (j := 7) (by decide +kernel) rfl ?_
        refine mz_ld158 (by decide +kernel) hc hI rfl (by omega) (by omega) (fun v10 ev10 pv10 => ?_)
        rw [ev10.trans ev3.symm]
        clear pv10 ev10 v10
        refine pw_shr (by decide +kernel) (fun z11 => ?_)
        refine pe_iconstv (n := 1) (v := 1) (by decide +kernel) (by decide +kernel) ?_
        refine pz_and1 (by decide +kernel) (fun z12 hz12 => ?_)
        refine pe_iconstv (n := 1) (v := 1) (by decide +kernel) (by decide +kernel) ?_
        refine pz_icmp_ne (off := 5) (t := 85) (by decide +kernel) (by decide) rfl rfl kz_1 (fun h13 => ?_) (fun h13 => ?_)
        · skip
          refine pe_iload (j := 6) (by decide +kernel) rfl ?_
          refine pe_iconstv (n := 1) (v := 1) (by decide +kernel) (by decide +kernel) ?_
          refine pe_aload_n (j := 0) (by decide +kernel) rfl ?_
          refine pe_get (j := 41) (ci := 12) (n := 21) (by decide +kernel) (by decide +kernel) (md_o hc) rfl ?_
          refine pe_iload (j := 7) (by decide +kernel) rfl ?_
          refine mz_ld158 (by decide +kernel) hc hI rfl (by omega) (by omega) (fun v14 ev14 pv14 => ?_)
          rw [ev14.trans ev3.symm]
          clear pv14 ev14 v14
          refine pz_shl1 (by decide +kernel) rfl (by omega) (by omega) (fun z15 hz15 => ?_)
          refine pw_or (by decide +kernel) (fun z16 => ?_)
          refine pe_istore (j := 6) (ls' := [.ref 147, .int x1, .int x2, .int x3, .int x4, .int x5, .int z16, .int x7]) (by decide +kernel) (Nat.le_of_ble_eq_true rfl) rfl ?_
          refine pz_iinc (j := 7) (n := 1) (by decide +kernel) rfl rfl (by decide +kernel) (by omega) (by omega) (fun z17 hz17 => ?_)
          show pmE pg X pg_tyl pg_cl (d + 2) 268 102 [.ref 147, .int x1, .int x2, .int x3, .int x4, .int x5, .int z16, .int z17] [] (md wc f A) _
          refine pe_goto (off := (-56)) (t := 46) (by decide +kernel) (by decide) rfl ?_
          have hq18 : (∀ j : Int, (0) ≤ j → j < (z17.toInt) → 0 ≤ ((A 158).getD j.toNat 0).toInt ∧ ((A 158).getD j.toNat 0).toInt ≤ 8) := by
            intro j h1 h2
            first
            | (exfalso; omega)
            | exact hv0 j (by omega) (by omega)
            | (by_cases e : (0) ≤ j ∧ j < (x7.toInt)
               · exact hv0 j e.1 e.2
               · have e3 : j.toNat = (x7.toInt).toNat := by omega
                 rw [e3, ← ev3]; omega)
          exact ih z16 z17 (by omega) hq18 (by omega)
        · skip
          refine pe_iconstv (n := 0) (v := 0) (by decide +kernel) (by decide +kernel) ?_
          exact pe_iret (by decide +kernel) rfl rfl kr_0
set_option maxRecDepth 100000 in
set_option maxHeartbeats 8000000 in
theorem ML_268_9 {X : pm_X} {d : Nat} {wc : pm_W} {Q : pm_R → Prop} {f : Nat → Int32} {A0 : Nat → List Int32} {x1 x2 x3 x4 : Int32} (hc : wc.length = 147) (gx1 : (610 ≤ x1.toInt ∧ x1.toInt ≤ 742 ∧ (x1.toInt - 610) % 132 = 0)) (gx2 : (1 ≤ x2.toInt ∧ x2.toInt ≤ 2)) (gx3 : (2 ≤ x3.toInt ∧ x3.toInt ≤ 6)) (gx4 : (0 ≤ x4.toInt)) (k_40_0 : ∀ (A' : Nat → List Int32) (y5 : Int32) (y6 : Int32), MI f A' → (∀ k : Nat, k ≠ 158 → A' k = A0 k) → (0 ≤ y5.toInt) → (0 ≤ y6.toInt ∧ y6.toInt ≤ 1) → pmE pg X pg_tyl pg_cl (d + 2) 268 40 [.ref 147, .int x1, .int x2, .int x3, .int x4, .int y5, .int y6, pm_dead] [] (md wc f A') Q) : ∀ (m : Nat) (A : Nat → List Int32) (x5 : Int32) (x6 : Int32), MI f A → (∀ k : Nat, k ≠ 158 → A k = A0 k) → (0 ≤ x5.toInt) → (0 ≤ x6.toInt ∧ x6.toInt ≤ 5) → x6.toInt - 0 < (m : Int) → pmE pg X pg_tyl pg_cl (d + 2) 268 9 [.ref 147, .int x1, .int x2, .int x3, .int x4, .int x5, .int x6, pm_dead] [] (md wc f A) Q := by
  intro m
  induction m with
  | zero =>
    intro A x5 x6 hI hF gx5 gx6 hm
    exfalso
    have l0 := zi_lo x6
    have u0 := zi_hi x6
    omega
  | succ m ih =>
    intro A x5 x6 hI hF gx5 gx6 hm
    refine pe_iload (j := 6) (by decide +kernel) rfl ?_
    refine pe_iload_n (j := 2) (by decide +kernel) rfl ?_
    refine pz_icmp_lt (off := 28) (t := 40) (by decide +kernel) (by decide) rfl rfl rfl (fun h1 => ?_) (fun h1 => ?_)
    · skip
      exact k_40_0 A x5 x6 hI (fun k n158 => (hF k n158)) (by omega) (by omega)
    · skip
      refine pe_aload_n (j := 0) (by decide +kernel) rfl ?_
      refine pe_get (j := 41) (ci := 12) (n := 21) (by decide +kernel) (by decide +kernel) (md_o hc) rfl ?_
      refine pe_iload (j := 6) (by decide +kernel) rfl ?_
      refine pe_iload (j := 5) (by decide +kernel) rfl ?_
      refine pe_bipushv (n := 9) (v := 9) (by decide +kernel) (by decide +kernel) ?_
      refine pz_rem (by decide +kernel) rfl kz_9 (by omega) (by omega) (fun z2 hz2 gz2 kz2 => ?_)
      refine mz_st158 (by decide +kernel) hc hI rfl (by omega) (by omega) (by simp only [MP_round]; omega) (fun A3 eA3 hIA3 => ?_)
      refine pe_iload (j := 5) (by decide +kernel) rfl ?_
      refine pe_bipushv (n := 9) (v := 9) (by decide +kernel) (by decide +kernel) ?_
      refine pz_div (by decide +kernel) rfl kz_9 (by omega) (by omega) (fun z4 hz4 => ?_)
      refine pe_istore (j := 5) (ls' := [.ref 147, .int x1, .int x2, .int x3, .int x4, .int z4, .int x6, pm_dead]) (by decide +kernel) (Nat.le_of_ble_eq_true rfl) rfl ?_
      refine pz_iinc (j := 6) (n := (-1)) (by decide +kernel) rfl rfl (by decide +kernel) (by omega) (by omega) (fun z5 hz5 => ?_)
      show pmE pg X pg_tyl pg_cl (d + 2) 268 37 [.ref 147, .int x1, .int x2, .int x3, .int x4, .int z4, .int z5, pm_dead] [] (md wc f A3) _
      refine pe_goto (off := (-28)) (t := 9) (by decide +kernel) (by decide) rfl ?_
      exact ih A3 z4 z5 hIA3 (fun k n158 => (upa_fr eA3 n158).trans ((hF k n158))) (by omega) (by omega) (by omega)
set_option maxRecDepth 100000 in
set_option maxHeartbeats 8000000 in
theorem MM_268 {X : pm_X} {d : Nat} {wc : pm_W} {f : Nat → Int32} {A : Nat → List Int32} {x1 x2 x3 x4 : Int32} (hc : wc.length = 147) (hI : MI f A) (gx1 : (610 ≤ x1.toInt ∧ x1.toInt ≤ 742 ∧ (x1.toInt - 610) % 132 = 0)) (gx2 : (1 ≤ x2.toInt ∧ x2.toInt ≤ 2)) (gx3 : (2 ≤ x3.toInt ∧ x3.toInt ≤ 6)) (gx4 : (0 ≤ x4.toInt)) : pmE pg X pg_tyl pg_cl (d + 2) 268 0 (pm_ent (pm_max pg 268) [.ref 147, .int x1, .int x2, .int x3, .int x4]) [] (md wc f A) (fun q => ∃ (A' : Nat → List Int32) (r : Int32), q = (some (.int r), md wc f A', 0, 0) ∧ MI f A' ∧ (∀ k : Nat, k ≠ 158 → A' k = A k) ∧ ((r = 0 ∧ True) ∨ (r = 1 ∧ (∀ j : Int, (0) ≤ j → j < (x3.toInt) → 0 ≤ ((A' 158).getD j.toNat 0).toInt ∧ ((A' 158).getD j.toNat 0).toInt ≤ 8) ∧ True))) := by
  show pmE pg X pg_tyl pg_cl (d + 2) 268 0 [.ref 147, .int x1, .int x2, .int x3, .int x4, pm_dead, pm_dead, pm_dead] [] (md wc f A) _
  refine pe_iload (j := 4) (by decide +kernel) rfl ?_
  refine pe_istore (j := 5) (ls' := [.ref 147, .int x1, .int x2, .int x3, .int x4, .int x4, pm_dead, pm_dead]) (by decide +kernel) (Nat.le_of_ble_eq_true rfl) rfl ?_
  refine pe_iload_n (j := 3) (by decide +kernel) rfl ?_
  refine pe_iconstv (n := 1) (v := 1) (by decide +kernel) (by decide +kernel) ?_
  refine pz_sub (by decide +kernel) rfl kz_1 (by omega) (by omega) (fun z1 hz1 => ?_)
  refine pe_istore (j := 6) (ls' := [.ref 147, .int x1, .int x2, .int x3, .int x4, .int x4, .int z1, pm_dead]) (by decide +kernel) (Nat.le_of_ble_eq_true rfl) rfl ?_
  refine ML_268_9 hc (by omega) (by omega) (by omega) (by omega) (fun A2 y4 y5 hIy3 hFhIy3 gy4 gy5 => ?_) 6 A x4 z1 hI (fun k _ => rfl) (by omega) (by omega) (by have l0 := zi_lo z1; have u0 := zi_hi z1; omega)
  refine pe_iconstv (n := 0) (v := 0) (by decide +kernel) (by decide +kernel) ?_
  refine pe_istore (j := 6) (ls' := [.ref 147, .int x1, .int x2, .int x3, .int x4, .int y4, .int 0, pm_dead]) (by decide +kernel) (Nat.le_of_ble_eq_true rfl) rfl ?_
  refine pe_iconstv (n := 0) (v := 0) (by decide +kernel) (by decide +kernel) ?_
  refine pe_istore (j := 7) (ls' := [.ref 147, .int x1, .int x2, .int x3, .int x4, .int y4, .int 0, .int 0]) (by decide +kernel) (Nat.le_of_ble_eq_true rfl) rfl ?_
  have hq10 : (∀ j : Int, (0) ≤ j → j < ((0 : Int32).toInt) → 0 ≤ ((A2 158).getD j.toNat 0).toInt ∧ ((A2 158).getD j.toNat 0).toInt ≤ 8) := by
    intro j h1 h2
    have hl_x7 := kz_0
    first
    | (exfalso; omega)
  refine ML_268_46 hc hIy3 (by omega) (by omega) (by omega) (by omega) (by omega) (fun y6 y7 gy7 hr8 hq9 => ?_) (⟨A2, 0, rfl, hIy3, (fun k n158 => (hFhIy3 k n158)), Or.inl ⟨rfl, trivial⟩⟩) 7 0 0 (by decide +kernel) hq10 (by decide +kernel)
  refine pe_iconstv (n := 1) (v := 1) (by decide +kernel) (by decide +kernel) ?_
  have hqr0 : (∀ j : Int, (0) ≤ j → j < (x3.toInt) → 0 ≤ ((A2 158).getD j.toNat 0).toInt ∧ ((A2 158).getD j.toNat 0).toInt ≤ 8) := by
    intro j h1 h2
    first
    | (exfalso; omega)
    | exact hq9 j (by omega) (by omega)
  exact pe_iret (by decide +kernel) rfl rfl ⟨A2, 1, rfl, hIy3, (fun k n158 => (hFhIy3 k n158)), Or.inr (⟨rfl, hqr0, trivial⟩)⟩
set_option maxRecDepth 100000 in
set_option maxHeartbeats 8000000 in
theorem ML_269_6 {X : pm_X} {d : Nat} {wc : pm_W} {Q : pm_R → Prop} {f : Nat → Int32} {A : Nat → List Int32} {x1 x2 x3 : Int32} (hc : wc.length = 147) (hI : MI f A) (gx1 : (610 ≤ x1.toInt ∧ x1.toInt ≤ 742 ∧ (x1.toInt - 610) % 132 = 0)) (gx2 : (2 ≤ x2.toInt ∧ x2.toInt ≤ 6)) (hk0 : (∀ j : Int, (0) ≤ j → j < (x2.toInt) → 0 ≤ ((A 158).getD j.toNat 0).toInt ∧ ((A 158).getD j.toNat 0).toInt ≤ 8)) (k_57_0 : ∀ (y4 : Int32) (y5 : Int32), (0 ≤ y4.toInt ∧ y4.toInt ≤ 1) → (0 ≤ y5.toInt ∧ y5.toInt ≤ 6) → y4.toInt ≤ y5.toInt → pmE pg X pg_tyl pg_cl (d + 2) 269 57 [.ref 147, .int x1, .int x2, .int x3, .int y4, .int y5] [] (md wc f A) Q) : ∀ (m : Nat) (x4 : Int32) (x5 : Int32), (0 ≤ x4.toInt ∧ x4.toInt ≤ 1) → (0 ≤ x5.toInt ∧ x5.toInt ≤ 6) → 6 - x5.toInt < (m : Int) → pmE pg X pg_tyl pg_cl (d + 2) 269 6 [.ref 147, .int x1, .int x2, .int x3, .int x4, .int x5] [] (md wc f A) Q := by
  intro m
  induction m with
  | zero =>
    intro x4 x5 gx4 gx5 hm
    exfalso
    have l0 := zi_lo x5
    have u0 := zi_hi x5
    omega
  | succ m ih =>
    intro x4 x5 gx4 gx5 hm
    refine pe_iload (j := 5) (by decide +kernel) rfl ?_
    refine pe_iload_n (j := 2) (by decide +kernel) rfl ?_
    refine pz_icmp_ge (off := 48) (t := 57) (by decide +kernel) (by decide) rfl rfl rfl (fun h1 => ?_) (fun h1 => ?_)
    · skip
      exact k_57_0 x4 x5 (by omega) (by omega) (by omega)
    · skip
      refine pe_iload (j := 4) (by decide +kernel) rfl ?_
      refine pz_if_eq (off := 43) (t := 57) (by decide +kernel) (by decide) rfl rfl (fun h2 => ?_) (fun h2 => ?_)
      · skip
        exact k_57_0 x4 x5 (by omega) (by omega) (by omega)
      · skip
        refine pe_aload_n (j := 0) (by decide +kernel) rfl ?_
        refine pe_iload_n (j := 1) (by decide +kernel) rfl ?_
        refine pe_aload_n (j := 0) (by decide +kernel) rfl ?_
        refine pe_get (j := 41) (ci := 12) (n := 21) (by decide +kernel) (by decide +kernel) (md_o hc) rfl ?_
        refine pe_iload (j := 5) (by decide +kernel) rfl ?_
        refine mz_ld158 (by decide +kernel) hc hI rfl (by omega) (by omega) (fun v3 ev3 pv3 => ?_)
        have rv3 : 0 ≤ v3.toInt ∧ v3.toInt ≤ 9 := by have p := pv3; simp only [MP_round] at p; omega
        clear pv3
        have rq4 := hk0 x5.toInt (by omega) (by omega)
        rw [← ev3] at rq4
        refine pe_aload_n (j := 0) (by decide +kernel) rfl ?_
        refine pe_get (j := 41) (ci := 12) (n := 21) (by decide +kernel) (by decide +kernel) (md_o hc) rfl ?_
        refine pe_iload (j := 5) (by decide +kernel) rfl ?_
        refine pe_iconstv (n := 1) (v := 1) (by decide +kernel) (by decide +kernel) ?_
        refine pz_add (by decide +kernel) rfl kz_1 (by omega) (by omega) (fun z5 hz5 => ?_)
        refine pe_iload_n (j := 2) (by decide +kernel) rfl ?_
        refine pz_rem (by decide +kernel) hz5 rfl (by omega) (by omega) (fun z6 hz6 gz6 kz6 => ?_)
        clear hz6
        refine mz_ld158 (by decide +kernel) hc hI rfl (by omega) (by omega) (fun v7 ev7 pv7 => ?_)
        have rv7 : 0 ≤ v7.toInt ∧ v7.toInt ≤ 9 := by have p := pv7; simp only [MP_round] at p; omega
        clear pv7
        have rq8 := hk0 z6.toInt (by omega) (by omega)
        rw [← ev7] at rq8
        refine pz_callV (j := 199) (mj := 231) (by decide +kernel) (cll_V (args := [.int v7, .int v3, .int x1]) (n := 3) (by decide +kernel) rfl rfl (md_o hc) (by decide +kernel) (Nat.le_of_ble_eq_true rfl) (Nat.le_of_ble_eq_true rfl)) (MM_231 hc hI (by omega) (by omega) (by omega)) (fun q9a q9b q9c q9d hqq9 => ?_)
        obtain ⟨rq9, eq9, kq9⟩ := hqq9
        cases eq9
        refine ⟨rfl, rfl, ?_⟩
        show pmE pg X pg_tyl pg_cl (d + 2) 269 40 [.ref 147, .int x1, .int x2, .int x3, .int x4, .int x5] [.int rq9] (md wc f A) _
        refine pe_iload_n (j := 3) (by decide +kernel) rfl ?_
        have lw11 := zi_lo rq9
        have uw11 := zi_hi rq9
        have lw12 := zi_lo x3
        have uw12 := zi_hi x3
        refine pz_icmp_lt (off := 7) (t := 48) (by decide +kernel) (by decide) rfl rfl rfl (fun h10 => ?_) (fun h10 => ?_)
        · skip
          refine pe_iconstv (n := 0) (v := 0) (by decide +kernel) (by decide +kernel) ?_
          refine pe_istore (j := 4) (ls' := [.ref 147, .int x1, .int x2, .int x3, .int 0, .int x5]) (by decide +kernel) (Nat.le_of_ble_eq_true rfl) rfl ?_
          refine pz_iinc (j := 5) (n := 1) (by decide +kernel) rfl rfl (by decide +kernel) (by omega) (by omega) (fun z13 hz13 => ?_)
          show pmE pg X pg_tyl pg_cl (d + 2) 269 54 [.ref 147, .int x1, .int x2, .int x3, .int 0, .int z13] [] (md wc f A) _
          refine pe_goto (off := (-48)) (t := 6) (by decide +kernel) (by decide) rfl ?_
          exact ih 0 z13 (by decide +kernel) (by omega) (by omega)
        · skip
          refine pe_iconstv (n := 1) (v := 1) (by decide +kernel) (by decide +kernel) ?_
          refine pe_goto (off := 4) (t := 49) (by decide +kernel) (by decide) rfl ?_
          refine pe_istore (j := 4) (ls' := [.ref 147, .int x1, .int x2, .int x3, .int 1, .int x5]) (by decide +kernel) (Nat.le_of_ble_eq_true rfl) rfl ?_
          refine pz_iinc (j := 5) (n := 1) (by decide +kernel) rfl rfl (by decide +kernel) (by omega) (by omega) (fun z14 hz14 => ?_)
          show pmE pg X pg_tyl pg_cl (d + 2) 269 54 [.ref 147, .int x1, .int x2, .int x3, .int 1, .int z14] [] (md wc f A) _
          refine pe_goto (off := (-48)) (t := 6) (by decide +kernel) (by decide) rfl ?_
          exact ih 1 z14 (by decide +kernel) (by omega) (by omega)
set_option maxRecDepth 100000 in
set_option maxHeartbeats 8000000 in
theorem MM_269 {X : pm_X} {d : Nat} {wc : pm_W} {f : Nat → Int32} {A : Nat → List Int32} {x1 x2 x3 : Int32} (hc : wc.length = 147) (hI : MI f A) (gx1 : (610 ≤ x1.toInt ∧ x1.toInt ≤ 742 ∧ (x1.toInt - 610) % 132 = 0)) (gx2 : (2 ≤ x2.toInt ∧ x2.toInt ≤ 6)) (hqp0 : (∀ j : Int, (0) ≤ j → j < (x2.toInt) → 0 ≤ ((A 158).getD j.toNat 0).toInt ∧ ((A 158).getD j.toNat 0).toInt ≤ 8)) : pmE pg X pg_tyl pg_cl (d + 2) 269 0 (pm_ent (pm_max pg 269) [.ref 147, .int x1, .int x2, .int x3]) [] (md wc f A) (fun q => ∃ (r : Int32), q = (some (.int r), md wc f A, 0, 0) ∧ (((0 ≤ r.toInt ∧ r.toInt ≤ 1) ∧ True))) := by
  show pmE pg X pg_tyl pg_cl (d + 2) 269 0 [.ref 147, .int x1, .int x2, .int x3, pm_dead, pm_dead] [] (md wc f A) _
  refine pe_iconstv (n := 1) (v := 1) (by decide +kernel) (by decide +kernel) ?_
  refine pe_istore (j := 4) (ls' := [.ref 147, .int x1, .int x2, .int x3, .int 1, pm_dead]) (by decide +kernel) (Nat.le_of_ble_eq_true rfl) rfl ?_
  refine pe_iconstv (n := 0) (v := 0) (by decide +kernel) (by decide +kernel) ?_
  refine pe_istore (j := 5) (ls' := [.ref 147, .int x1, .int x2, .int x3, .int 1, .int 0]) (by decide +kernel) (Nat.le_of_ble_eq_true rfl) rfl ?_
  have hk1 : (∀ j : Int, (0) ≤ j → j < (x2.toInt) → 0 ≤ ((A 158).getD j.toNat 0).toInt ∧ ((A 158).getD j.toNat 0).toInt ≤ 8) := by
    intro j h1 h2
    first
    | (exfalso; omega)
    | exact hqp0 j (by omega) (by omega)
  refine ML_269_6 hc hI (by omega) (by omega) hk1 (fun y2 y3 gy2 gy3 hr4 => ?_) 7 1 0 (by decide +kernel) (by decide +kernel) (by decide +kernel)
  refine pe_iload (j := 4) (by decide +kernel) rfl ?_
  exact pe_iret (by decide +kernel) rfl (nz_b (by omega)) ⟨y2, rfl, ⟨(by omega), trivial⟩⟩
set_option maxRecDepth 100000 in
set_option maxHeartbeats 8000000 in
theorem ML_233_246 {X : pm_X} {d : Nat} {wc : pm_W} {Q : pm_R → Prop} {f : Nat → Int32} {A0 : Nat → List Int32} {x1 x2 x3 x4 x5 : Int32} {u7 : Value} (hc : wc.length = 147) (gx1 : (610 ≤ x1.toInt ∧ x1.toInt ≤ 742 ∧ (x1.toInt - 610) % 132 = 0)) (gx2 : (875 ≤ x2.toInt ∧ x2.toInt ≤ 1680)) (gx3 : (0 ≤ x3.toInt ∧ x3.toInt ≤ 6)) (gx4 : (1 ≤ x4.toInt ∧ x4.toInt ≤ 1)) (gx5 : (0 ≤ x5.toInt ∧ x5.toInt ≤ 290)) (k_302_0 : ∀ (A' : Nat → List Int32) (y6 : Int32), MI f A' → (∀ k : Nat, k ≠ 152 → A' k = A0 k) → (0 ≤ y6.toInt ∧ y6.toInt ≤ 6) → x3.toInt ≤ y6.toInt → ((-1) * (f 14).toInt + 1) ≤ 0 → pmE pg X pg_tyl pg_cl (d + 2) 233 302 [.ref 147, .int x1, .int x2, .int x3, .int x4, .int x5, .int y6, u7] [] (md wc f A') Q) : ∀ (m : Nat) (A : Nat → List Int32) (x6 : Int32), MI f A → (∀ k : Nat, k ≠ 152 → A k = A0 k) → (0 ≤ x6.toInt ∧ x6.toInt ≤ 6) → ((-1) * (f 14).toInt + 1) ≤ 0 → 6 - x6.toInt < (m : Int) → pmE pg X pg_tyl pg_cl (d + 2) 233 246 [.ref 147, .int x1, .int x2, .int x3, .int x4, .int x5, .int x6, u7] [] (md wc f A) Q := by
  intro m
  induction m with
  | zero =>
    intro A x6 hI hF gx6 hxi0 hm
    exfalso
    have l0 := zi_lo x6
    have u0 := zi_hi x6
    omega
  | succ m ih =>
    intro A x6 hI hF gx6 hxi0 hm
    have hr_14_f := hI.1 14
    simp only [MF] at hr_14_f
    refine pe_iload (j := 6) (by decide +kernel) rfl ?_
    refine pe_iload_n (j := 3) (by decide +kernel) rfl ?_
    refine pz_icmp_ge (off := 53) (t := 302) (by decide +kernel) (by decide) rfl rfl rfl (fun h1 => ?_) (fun h1 => ?_)
    · skip
      exact k_302_0 A x6 hI (fun k n152 => (hF k n152)) (by omega) (by omega) (by omega)
    · skip
      refine pe_aload_n (j := 0) (by decide +kernel) rfl ?_
      refine pe_get (j := 23) (ci := 12) (n := 12) (by decide +kernel) (by decide +kernel) (md_o hc) rfl ?_
      refine pe_bipushv (n := 9) (v := 9) (by decide +kernel) (by decide +kernel) ?_
      refine pe_aload_n (j := 0) (by decide +kernel) rfl ?_
      refine pe_aload_n (j := 0) (by decide +kernel) rfl ?_
      refine pe_get (j := 175) (ci := 12) (n := 14) (by decide +kernel) (by decide +kernel) (md_o hc) rfl ?_
      refine pe_iconstv (n := 1) (v := 1) (by decide +kernel) (by decide +kernel) ?_
      refine pz_sub (by decide +kernel) rfl kz_1 (by omega) (by omega) (fun z2 hz2 => ?_)
      refine pe_iload (j := 6) (by decide +kernel) rfl ?_
      refine pi_V (j := 184) (mj := 234) (by decide +kernel) (cll_V (args := [.int x6, .int z2]) (n := 2) (by decide +kernel) rfl rfl (md_o hc) (by decide +kernel) (Nat.le_of_ble_eq_true rfl) (Nat.le_of_ble_eq_true rfl)) ?_
      show pmE pg X pg_tyl pg_cl (d + 1) 234 0 [.ref 147, .int z2, .int x6] [] (md wc f A) _
      refine pe_aload_n (j := 0) (by decide +kernel) rfl ?_
      refine pe_get (j := 26) (ci := 12) (n := 13) (by decide +kernel) (by decide +kernel) (md_o hc) rfl ?_
      refine pe_bipushv (n := 10) (v := 10) (by decide +kernel) (by decide +kernel) ?_
      refine pe_iload_n (j := 1) (by decide +kernel) rfl ?_
      refine pz_mul (by decide +kernel) kz_10 hz2 (by omega) (by omega) (fun z3 hz3 => ?_)
      refine pe_iconstv (n := 4) (v := 4) (by decide +kernel) (by decide +kernel) ?_
      refine pz_add (by decide +kernel) hz3 kz_4 (by omega) (by omega) (fun z4 hz4 => ?_)
      clear hz3
      refine pe_iload_n (j := 2) (by decide +kernel) rfl ?_
      refine pz_add (by decide +kernel) hz4 rfl (by omega) (by omega) (fun z5 hz5 => ?_)
      clear hz4
      refine mz_ld153 (by decide +kernel) hc hI hz5 (by omega) (by omega) (fun v6 ev6 pv6 => ?_)
      rw [show A 153 = A0 153 from (hF 153 (by decide))] at ev6
      have rv6 : 0 ≤ v6.toInt ∧ v6.toInt ≤ 8 := by have p := pv6; simp only [MP_rings] at p; omega
      clear hz5
      refine pe_iret (by decide +kernel) rfl rfl ⟨rfl, rfl, ?_⟩
      show pmE pg X pg_tyl pg_cl (d + 2) 233 270 [.ref 147, .int x1, .int x2, .int x3, .int x4, .int x5, .int x6, u7] [.int v6, .int 9, .ref 152] (md wc f A) _
      refine pz_mul (by decide +kernel) kz_9 rfl (by omega) (by omega) (fun z7 hz7 => ?_)
      refine pe_aload_n (j := 0) (by decide +kernel) rfl ?_
      refine pe_aload_n (j := 0) (by decide +kernel) rfl ?_
      refine pe_get (j := 175) (ci := 12) (n := 14) (by decide +kernel) (by decide +kernel) (md_o hc) rfl ?_
      refine pe_iconstv (n := 1) (v := 1) (by decide +kernel) (by decide +kernel) ?_
      refine pz_sub (by decide +kernel) rfl kz_1 (by omega) (by omega) (fun z8 hz8 => ?_)
      refine pe_iload (j := 6) (by decide +kernel) rfl ?_
      refine pz_callV (j := 187) (mj := 235) (by decide +kernel) (cll_V (args := [.int x6, .int z8]) (n := 2) (by decide +kernel) rfl rfl (md_o hc) (by decide +kernel) (Nat.le_of_ble_eq_true rfl) (Nat.le_of_ble_eq_true rfl)) (MM_235 hc hI (by omega) (by omega)) (fun q9a q9b q9c q9d hqq9 => ?_)
      obtain ⟨rq9, eq9, kq9⟩ := hqq9
      cases eq9
      refine ⟨rfl, rfl, ?_⟩
      show pmE pg X pg_tyl pg_cl (d + 2) 233 283 [.ref 147, .int x1, .int x2, .int x3, .int x4, .int x5, .int x6, u7] [.int rq9, .int z7, .ref 152] (md wc f A) _
      refine pz_add (by decide +kernel) hz7 rfl (by omega) (by omega) (fun z10 hz10 => ?_)
      clear hz7
      refine pe_dup2 (by decide +kernel) ⟨rfl, rfl⟩ ?_
      refine mz_ld152 (by decide +kernel) hc hI hz10 (by omega) (by omega) (fun v11 ev11 => ?_)
      refine pe_aload_n (j := 0) (by decide +kernel) rfl ?_
      refine pe_get (j := 7) (ci := 12) (n := 0) (by decide +kernel) (by decide +kernel) (md_o hc) rfl ?_
      refine pe_iload_n (j := 2) (by decide +kernel) rfl ?_
      refine pe_iconstv (n := 1) (v := 1) (by decide +kernel) (by decide +kernel) ?_
      refine pz_add (by decide +kernel) rfl kz_1 (by omega) (by omega) (fun z12 hz12 => ?_)
      refine mz_ld148 (by decide +kernel) hc hI hz12 (by omega) (by omega) (fun v13 ev13 pv13 => ?_)
      rw [show A 148 = A0 148 from (hF 148 (by decide))] at ev13
      clear pv13
      clear hz12
      refine pw_add (by decide +kernel) (fun z14 => ?_)
      refine mz_st152 (by decide +kernel) hc hI hz10 (by omega) (by omega) (fun A15 eA15 hIA15 => ?_)
      refine pz_iinc (j := 6) (n := 1) (by decide +kernel) rfl rfl (by decide +kernel) (by omega) (by omega) (fun z16 hz16 => ?_)
      show pmE pg X pg_tyl pg_cl (d + 2) 233 299 [.ref 147, .int x1, .int x2, .int x3, .int x4, .int x5, .int z16, u7] [] (md wc f A15) _
      refine pe_goto (off := (-53)) (t := 246) (by decide +kernel) (by decide) rfl ?_
      exact ih A15 z16 hIA15 (fun k n152 => (upa_fr eA15 n152).trans ((hF k n152))) (by omega) (by omega) (by omega)
set_option maxRecDepth 100000 in
set_option maxHeartbeats 8000000 in
theorem ML_233_198 {X : pm_X} {d : Nat} {wc : pm_W} {Q : pm_R → Prop} {f : Nat → Int32} {A0 : Nat → List Int32} {x1 x2 x3 x4 x5 : Int32} {u7 : Value} (hc : wc.length = 147) (gx1 : (610 ≤ x1.toInt ∧ x1.toInt ≤ 742 ∧ (x1.toInt - 610) % 132 = 0)) (gx2 : (875 ≤ x2.toInt ∧ x2.toInt ≤ 1680)) (gx3 : (0 ≤ x3.toInt ∧ x3.toInt ≤ 6)) (gx4 : (1 ≤ x4.toInt ∧ x4.toInt ≤ 1)) (gx5 : (0 ≤ x5.toInt ∧ x5.toInt ≤ 290)) (he5 : x5.toInt = (10 * (f 14).toInt)) (hk0 : (∀ j : Int, (x2.toInt + 3) ≤ j → j < (x2.toInt + x3.toInt + 3) → 0 ≤ ((A0 148).getD j.toNat 0).toInt ∧ ((A0 148).getD j.toNat 0).toInt ≤ 8)) (k_233_0 : ∀ (A' : Nat → List Int32) (y6 : Int32), MI f A' → (∀ k : Nat, k ≠ 153 → A' k = A0 k) → (0 ≤ y6.toInt ∧ y6.toInt ≤ 6) → x3.toInt ≤ y6.toInt → pmE pg X pg_tyl pg_cl (d + 2) 233 233 [.ref 147, .int x1, .int x2, .int x3, .int x4, .int x5, .int y6, u7] [] (md wc f A') Q) : ∀ (m : Nat) (A : Nat → List Int32) (x6 : Int32), MI f A → (∀ k : Nat, k ≠ 153 → A k = A0 k) → (0 ≤ x6.toInt ∧ x6.toInt ≤ 6) → 6 - x6.toInt < (m : Int) → pmE pg X pg_tyl pg_cl (d + 2) 233 198 [.ref 147, .int x1, .int x2, .int x3, .int x4, .int x5, .int x6, u7] [] (md wc f A) Q := by
  intro m
  induction m with
  | zero =>
    intro A x6 hI hF gx6 hm
    exfalso
    have l0 := zi_lo x6
    have u0 := zi_hi x6
    omega
  | succ m ih =>
    intro A x6 hI hF gx6 hm
    have hr_14_f := hI.1 14
    simp only [MF] at hr_14_f
    refine pe_iload (j := 6) (by decide +kernel) rfl ?_
    refine pe_iload_n (j := 3) (by decide +kernel) rfl ?_
    refine pz_icmp_ge (off := 32) (t := 233) (by decide +kernel) (by decide) rfl rfl rfl (fun h1 => ?_) (fun h1 => ?_)
    · skip
      exact k_233_0 A x6 hI (fun k n153 => (hF k n153)) (by omega) (by omega)
    · skip
      refine pe_aload_n (j := 0) (by decide +kernel) rfl ?_
      refine pe_get (j := 26) (ci := 12) (n := 13) (by decide +kernel) (by decide +kernel) (md_o hc) rfl ?_
      refine pe_iload (j := 5) (by decide +kernel) rfl ?_
      refine pe_iconstv (n := 4) (v := 4) (by decide +kernel) (by decide +kernel) ?_
      refine pz_add (by decide +kernel) he5 kz_4 (by omega) (by omega) (fun z2 hz2 => ?_)
      refine pe_iload (j := 6) (by decide +kernel) rfl ?_
      refine pz_add (by decide +kernel) hz2 rfl (by omega) (by omega) (fun z3 hz3 => ?_)
      clear hz2
      refine pe_aload_n (j := 0) (by decide +kernel) rfl ?_
      refine pe_get (j := 7) (ci := 12) (n := 0) (by decide +kernel) (by decide +kernel) (md_o hc) rfl ?_
      refine pe_iload_n (j := 2) (by decide +kernel) rfl ?_
      refine pe_iconstv (n := 3) (v := 3) (by decide +kernel) (by decide +kernel) ?_
      refine pz_add (by decide +kernel) rfl kz_3 (by omega) (by omega) (fun z4 hz4 => ?_)
      refine pe_iload (j := 6) (by decide +kernel) rfl ?_
      refine pz_add (by decide +kernel) hz4 rfl (by omega) (by omega) (fun z5 hz5 => ?_)
      clear hz4
      refine mz_ld148 (by decide +kernel) hc hI hz5 (by omega) (by omega) (fun v6 ev6 pv6 => ?_)
      rw [show A 148 = A0 148 from (hF 148 (by decide))] at ev6
      clear pv6
      have rq7 := hk0 ((x2.toInt + 3) + x6.toInt) (by omega) (by omega)
      rw [← ev6] at rq7
      clear hz5
      refine mz_st153 (by decide +kernel) hc hI hz3 (by omega) (by omega) (by simp only [MP_rings]; omega) (fun A8 eA8 hIA8 => ?_)
      refine pz_iinc (j := 6) (n := 1) (by decide +kernel) rfl rfl (by decide +kernel) (by omega) (by omega) (fun z9 hz9 => ?_)
      show pmE pg X pg_tyl pg_cl (d + 2) 233 230 [.ref 147, .int x1, .int x2, .int x3, .int x4, .int x5, .int z9, u7] [] (md wc f A8) _
      refine pe_goto (off := (-32)) (t := 198) (by decide +kernel) (by decide) rfl ?_
      exact ih A8 z9 hIA8 (fun k n153 => (upa_fr eA8 n153).trans ((hF k n153))) (by omega) (by omega)
set_option maxRecDepth 100000 in
set_option maxHeartbeats 8000000 in
theorem ML_233_33 {X : pm_X} {d : Nat} {wc : pm_W} {Q : pm_R → Prop} {f : Nat → Int32} {A : Nat → List Int32} {x1 x2 x3 : Int32} (hc : wc.length = 147) (hI : MI f A) (gx1 : (610 ≤ x1.toInt ∧ x1.toInt ≤ 742 ∧ (x1.toInt - 610) % 132 = 0)) (gx2 : (875 ≤ x2.toInt ∧ x2.toInt ≤ 1680)) (gx3 : (0 ≤ x3.toInt ∧ x3.toInt ≤ 6)) (k_127_0 : ∀ (y4 : Int32) (y5 : Int32) (v6 : Value) (v7 : Value), (0 ≤ y4.toInt ∧ y4.toInt ≤ 1) → (0 ≤ y5.toInt ∧ y5.toInt ≤ 6) → x3.toInt ≤ y5.toInt → (∀ j : Int, (x2.toInt + 3) ≤ j → j < (x2.toInt + y5.toInt + 3) → (y4.toInt) = 1 → 0 ≤ ((A 148).getD j.toNat 0).toInt ∧ ((A 148).getD j.toNat 0).toInt ≤ 8) → pmE pg X pg_tyl pg_cl (d + 2) 233 127 [.ref 147, .int x1, .int x2, .int x3, .int y4, .int y5, v6, v7] [] (md wc f A) Q) (k_127_1 : ∀ (y4 : Int32) (y5 : Int32) (v6 : Value) (v7 : Value), (0 ≤ y4.toInt ∧ y4.toInt ≤ 0) → (0 ≤ y5.toInt ∧ y5.toInt ≤ 5) → y5.toInt ≤ x3.toInt → (∀ j : Int, (x2.toInt + 3) ≤ j → j < (x2.toInt + y5.toInt + 3) → (y4.toInt) = 1 → 0 ≤ ((A 148).getD j.toNat 0).toInt ∧ ((A 148).getD j.toNat 0).toInt ≤ 8) → pmE pg X pg_tyl pg_cl (d + 2) 233 127 [.ref 147, .int x1, .int x2, .int x3, .int y4, .int y5, v6, v7] [] (md wc f A) Q) : ∀ (m : Nat) (x4 : Int32) (x5 : Int32) (u6 : Value) (u7 : Value), (0 ≤ x4.toInt ∧ x4.toInt ≤ 1) → (0 ≤ x5.toInt ∧ x5.toInt ≤ 6) → (∀ j : Int, (x2.toInt + 3) ≤ j → j < (x2.toInt + x5.toInt + 3) → (x4.toInt) = 1 → 0 ≤ ((A 148).getD j.toNat 0).toInt ∧ ((A 148).getD j.toNat 0).toInt ≤ 8) → 6 - x5.toInt < (m : Int) → pmE pg X pg_tyl pg_cl (d + 2) 233 33 [.ref 147, .int x1, .int x2, .int x3, .int x4, .int x5, u6, u7] [] (md wc f A) Q := by
  intro m
  induction m with
  | zero =>
    intro x4 x5 u6 u7 gx4 gx5 hv0 hm
    exfalso
    have l0 := zi_lo x5
    have u0 := zi_hi x5
    omega
  | succ m ih =>
    intro x4 x5 u6 u7 gx4 gx5 hv0 hm
    refine pe_iload (j := 5) (by decide +kernel) rfl ?_
    refine pe_iload_n (j := 3) (by decide +kernel) rfl ?_
    refine pz_icmp_ge (off := 91) (t := 127) (by decide +kernel) (by decide) rfl rfl rfl (fun h1 => ?_) (fun h1 => ?_)
    · skip
      have hq2 : (∀ j : Int, (x2.toInt + 3) ≤ j → j < (x2.toInt + x5.toInt + 3) → (x4.toInt) = 1 → 0 ≤ ((A 148).getD j.toNat 0).toInt ∧ ((A 148).getD j.toNat 0).toInt ≤ 8) := by
        intro j h1 h2 h3
        first
        | (exfalso; omega)
        | exact hv0 j (by omega) (by omega) (by omega)
      exact k_127_0 x4 x5 (u6) (u7) (by omega) (by omega) (by omega) hq2
    · skip
      refine pe_iload (j := 4) (by decide +kernel) rfl ?_
      refine pz_if_eq (off := 86) (t := 127) (by decide +kernel) (by decide) rfl rfl (fun h3 => ?_) (fun h3 => ?_)
      · skip
        have hq4 : (∀ j : Int, (x2.toInt + 3) ≤ j → j < (x2.toInt + x5.toInt + 3) → (x4.toInt) = 1 → 0 ≤ ((A 148).getD j.toNat 0).toInt ∧ ((A 148).getD j.toNat 0).toInt ≤ 8) := by
          intro j h1 h2 h3
          first
          | (exfalso; omega)
          | exact hv0 j (by omega) (by omega) (by omega)
        exact k_127_1 x4 x5 (u6) (u7) (by omega) (by omega) (by omega) hq4
      · skip
        refine pe_aload_n (j := 0) (by decide +kernel) rfl ?_
        refine pe_get (j := 7) (ci := 12) (n := 0) (by decide +kernel) (by decide +kernel) (md_o hc) rfl ?_
        refine pe_iload_n (j := 2) (by decide +kernel) rfl ?_
        refine pe_iconstv (n := 3) (v := 3) (by decide +kernel) (by decide +kernel) ?_
        refine pz_add (by decide +kernel) rfl kz_3 (by omega) (by omega) (fun z5 hz5 => ?_)
        refine pe_iload (j := 5) (by decide +kernel) rfl ?_
        refine pz_add (by decide +kernel) hz5 rfl (by omega) (by omega) (fun z6 hz6 => ?_)
        clear hz5
        refine mz_ld148 (by decide +kernel) hc hI hz6 (by omega) (by omega) (fun v7 ev7 pv7 => ?_)
        clear pv7
        clear hz6
        refine pe_istore (j := 6) (ls' := [.ref 147, .int x1, .int x2, .int x3, .int x4, .int x5, .int v7, u7]) (by decide +kernel) (Nat.le_of_ble_eq_true rfl) rfl ?_
        refine pe_aload_n (j := 0) (by decide +kernel) rfl ?_
        refine pe_get (j := 7) (ci := 12) (n := 0) (by decide +kernel) (by decide +kernel) (md_o hc) rfl ?_
        refine pe_iload_n (j := 2) (by decide +kernel) rfl ?_
        refine pe_iconstv (n := 3) (v := 3) (by decide +kernel) (by decide +kernel) ?_
        refine pz_add (by decide +kernel) rfl kz_3 (by omega) (by omega) (fun z8 hz8 => ?_)
        refine pe_iload (j := 5) (by decide +kernel) rfl ?_
        refine pe_iconstv (n := 1) (v := 1) (by decide +kernel) (by decide +kernel) ?_
        refine pz_add (by decide +kernel) rfl kz_1 (by omega) (by omega) (fun z9 hz9 => ?_)
        refine pe_iload_n (j := 3) (by decide +kernel) rfl ?_
        refine pz_rem (by decide +kernel) hz9 rfl (by omega) (by omega) (fun z10 hz10 gz10 kz10 => ?_)
        clear hz10
        refine pz_add (by decide +kernel) hz8 rfl (by omega) (by omega) (fun z11 hz11 => ?_)
        clear hz8
        refine mz_ld148 (by decide +kernel) hc hI hz11 (by omega) (by omega) (fun v12 ev12 pv12 => ?_)
        clear pv12
        clear hz11
        refine pe_istore (j := 7) (ls' := [.ref 147, .int x1, .int x2, .int x3, .int x4, .int x5, .int v7, .int v12]) (by decide +kernel) (Nat.le_of_ble_eq_true rfl) rfl ?_
        refine pe_aload_n (j := 0) (by decide +kernel) rfl ?_
        refine pe_iload_n (j := 1) (by decide +kernel) rfl ?_
        refine pe_iload (j := 6) (by decide +kernel) rfl ?_
        refine pi_V (j := 166) (mj := 221) (by decide +kernel) (cll_V (args := [.int v7, .int x1]) (n := 2) (by decide +kernel) rfl rfl (md_o hc) (by decide +kernel) (Nat.le_of_ble_eq_true rfl) (Nat.le_of_ble_eq_true rfl)) ?_
        show pmE pg X pg_tyl pg_cl (d + 1) 221 0 [.ref 147, .int x1, .int v7] [] (md wc f A) _
        refine pe_iload_n (j := 2) (by decide +kernel) rfl ?_
        refine pe_iconstv (n := 0) (v := 0) (by decide +kernel) (by decide +kernel) ?_
        refine pe_aload_n (j := 0) (by decide +kernel) rfl ?_
        refine pe_get (j := 7) (ci := 12) (n := 0) (by decide +kernel) (by decide +kernel) (md_o hc) rfl ?_
        refine pe_iload_n (j := 1) (by decide +kernel) rfl ?_
        refine mz_ld148 (by decide +kernel) hc hI rfl (by omega) (by omega) (fun v13 ev13 pv13 => ?_)
        have rv13 : 0 ≤ v13.toInt ∧ v13.toInt ≤ 9 := MT_people pv13 (by omega)
        clear pv13
        refine pe_iconstv (n := 1) (v := 1) (by decide +kernel) (by decide +kernel) ?_
        refine pz_sub (by decide +kernel) rfl kz_1 (by omega) (by omega) (fun z14 hz14 => ?_)
        refine pi_S (j := 119) (mj := 199) (by decide +kernel) (by decide +kernel) rfl ?_
        show pmE pg X pg_tyl pg_cl (d) 199 0 [.int v7, .int 0, .int z14] [] (md wc f A) _
        refine pe_iload_n (j := 0) (by decide +kernel) rfl ?_
        refine pe_iload_n (j := 1) (by decide +kernel) rfl ?_
        have lw16 := zi_lo v7
        have uw16 := zi_hi v7
        refine pz_icmp_lt (off := 12) (t := 14) (by decide +kernel) (by decide) rfl rfl kz_0 (fun h15 => ?_) (fun h15 => ?_)
        · skip
          refine pe_iconstv (n := 0) (v := 0) (by decide +kernel) (by decide +kernel) ?_
          refine pe_iret (by decide +kernel) rfl rfl ⟨rfl, rfl, ?_⟩
          show pmE pg X pg_tyl pg_cl (d + 1) 221 13 [.ref 147, .int x1, .int v7] [.int 0] (md wc f A) _
          refine pe_iret (by decide +kernel) rfl rfl ⟨rfl, rfl, ?_⟩
          show pmE pg X pg_tyl pg_cl (d + 2) 233 81 [.ref 147, .int x1, .int x2, .int x3, .int x4, .int x5, .int v7, .int v12] [.int 0] (md wc f A) _
          refine pz_if_eq (off := 37) (t := 118) (by decide +kernel) (by decide) rfl kz_0 (fun h17 => ?_) (fun h17 => by omega)
          refine pe_iconstv (n := 0) (v := 0) (by decide +kernel) (by decide +kernel) ?_
          refine pe_istore (j := 4) (ls' := [.ref 147, .int x1, .int x2, .int x3, .int 0, .int x5, .int v7, .int v12]) (by decide +kernel) (Nat.le_of_ble_eq_true rfl) rfl ?_
          refine pz_iinc (j := 5) (n := 1) (by decide +kernel) rfl rfl (by decide +kernel) (by omega) (by omega) (fun z18 hz18 => ?_)
          show pmE pg X pg_tyl pg_cl (d + 2) 233 124 [.ref 147, .int x1, .int x2, .int x3, .int 0, .int z18, .int v7, .int v12] [] (md wc f A) _
          refine pe_goto (off := (-91)) (t := 33) (by decide +kernel) (by decide) rfl ?_
          have hq19 : (∀ j : Int, (x2.toInt + 3) ≤ j → j < (x2.toInt + z18.toInt + 3) → ((0 : Int32).toInt) = 1 → 0 ≤ ((A 148).getD j.toNat 0).toInt ∧ ((A 148).getD j.toNat 0).toInt ≤ 8) := by
            intro j h1 h2 h3
            have hl_x4 := kz_0
            first
            | (exfalso; omega)
            | exact hv0 j (by omega) (by omega) (by omega)
            | (by_cases e : (x2.toInt + 3) ≤ j ∧ j < (x2.toInt + x5.toInt + 3)
               · exact hv0 j e.1 e.2 (by omega)
               · have e3 : j.toNat = (((x2.toInt + 3) + x5.toInt)).toNat := by omega
                 rw [e3, ← ev7]; omega)
            | (by_cases e : (x2.toInt + 3) ≤ j ∧ j < (x2.toInt + x5.toInt + 3)
               · exact hv0 j e.1 e.2 (by omega)
               · have e3 : j.toNat = (((x2.toInt + 3) + z10.toInt)).toNat := by omega
                 rw [e3, ← ev12]; omega)
            | (by_cases e : (x2.toInt + 3) ≤ j ∧ j < (x2.toInt + x5.toInt + 3)
               · exact hv0 j e.1 e.2 (by omega)
               · have e3 : j.toNat = (x1.toInt).toNat := by omega
                 rw [e3, ← ev13]; omega)
          exact ih 0 z18 (.int v7) (.int v12) (by decide +kernel) (by omega) hq19 (by omega)
        · skip
          refine pe_iload_n (j := 0) (by decide +kernel) rfl ?_
          refine pe_iload_n (j := 2) (by decide +kernel) rfl ?_
          refine pz_icmp_gt (off := 7) (t := 14) (by decide +kernel) (by decide) rfl rfl hz14 (fun h20 => ?_) (fun h20 => ?_)
          · skip
            refine pe_iconstv (n := 0) (v := 0) (by decide +kernel) (by decide +kernel) ?_
            refine pe_iret (by decide +kernel) rfl rfl ⟨rfl, rfl, ?_⟩
            show pmE pg X pg_tyl pg_cl (d + 1) 221 13 [.ref 147, .int x1, .int v7] [.int 0] (md wc f A) _
            refine pe_iret (by decide +kernel) rfl rfl ⟨rfl, rfl, ?_⟩
            show pmE pg X pg_tyl pg_cl (d + 2) 233 81 [.ref 147, .int x1, .int x2, .int x3, .int x4, .int x5, .int v7, .int v12] [.int 0] (md wc f A) _
            refine pz_if_eq (off := 37) (t := 118) (by decide +kernel) (by decide) rfl kz_0 (fun h21 => ?_) (fun h21 => by omega)
            refine pe_iconstv (n := 0) (v := 0) (by decide +kernel) (by decide +kernel) ?_
            refine pe_istore (j := 4) (ls' := [.ref 147, .int x1, .int x2, .int x3, .int 0, .int x5, .int v7, .int v12]) (by decide +kernel) (Nat.le_of_ble_eq_true rfl) rfl ?_
            refine pz_iinc (j := 5) (n := 1) (by decide +kernel) rfl rfl (by decide +kernel) (by omega) (by omega) (fun z22 hz22 => ?_)
            show pmE pg X pg_tyl pg_cl (d + 2) 233 124 [.ref 147, .int x1, .int x2, .int x3, .int 0, .int z22, .int v7, .int v12] [] (md wc f A) _
            refine pe_goto (off := (-91)) (t := 33) (by decide +kernel) (by decide) rfl ?_
            have hq23 : (∀ j : Int, (x2.toInt + 3) ≤ j → j < (x2.toInt + z22.toInt + 3) → ((0 : Int32).toInt) = 1 → 0 ≤ ((A 148).getD j.toNat 0).toInt ∧ ((A 148).getD j.toNat 0).toInt ≤ 8) := by
              intro j h1 h2 h3
              have hl_x4 := kz_0
              first
              | (exfalso; omega)
              | exact hv0 j (by omega) (by omega) (by omega)
              | (by_cases e : (x2.toInt + 3) ≤ j ∧ j < (x2.toInt + x5.toInt + 3)
                 · exact hv0 j e.1 e.2 (by omega)
                 · have e3 : j.toNat = (((x2.toInt + 3) + x5.toInt)).toNat := by omega
                   rw [e3, ← ev7]; omega)
              | (by_cases e : (x2.toInt + 3) ≤ j ∧ j < (x2.toInt + x5.toInt + 3)
                 · exact hv0 j e.1 e.2 (by omega)
                 · have e3 : j.toNat = (((x2.toInt + 3) + z10.toInt)).toNat := by omega
                   rw [e3, ← ev12]; omega)
              | (by_cases e : (x2.toInt + 3) ≤ j ∧ j < (x2.toInt + x5.toInt + 3)
                 · exact hv0 j e.1 e.2 (by omega)
                 · have e3 : j.toNat = (x1.toInt).toNat := by omega
                   rw [e3, ← ev13]; omega)
            exact ih 0 z22 (.int v7) (.int v12) (by decide +kernel) (by omega) hq23 (by omega)
          · skip
            refine pe_iconstv (n := 1) (v := 1) (by decide +kernel) (by decide +kernel) ?_
            refine pe_goto (off := 4) (t := 15) (by decide +kernel) (by decide) rfl ?_
            refine pe_iret (by decide +kernel) rfl rfl ⟨rfl, rfl, ?_⟩
            show pmE pg X pg_tyl pg_cl (d + 1) 221 13 [.ref 147, .int x1, .int v7] [.int 1] (md wc f A) _
            refine pe_iret (by decide +kernel) rfl rfl ⟨rfl, rfl, ?_⟩
            show pmE pg X pg_tyl pg_cl (d + 2) 233 81 [.ref 147, .int x1, .int x2, .int x3, .int x4, .int x5, .int v7, .int v12] [.int 1] (md wc f A) _
            refine pz_if_eq (off := 37) (t := 118) (by decide +kernel) (by decide) rfl kz_1 (fun h24 => by omega) (fun h24 => ?_)
            refine pe_aload_n (j := 0) (by decide +kernel) rfl ?_
            refine pe_iload_n (j := 1) (by decide +kernel) rfl ?_
            refine pe_iload (j := 7) (by decide +kernel) rfl ?_
            refine pi_V (j := 166) (mj := 221) (by decide +kernel) (cll_V (args := [.int v12, .int x1]) (n := 2) (by decide +kernel) rfl rfl (md_o hc) (by decide +kernel) (Nat.le_of_ble_eq_true rfl) (Nat.le_of_ble_eq_true rfl)) ?_
            show pmE pg X pg_tyl pg_cl (d + 1) 221 0 [.ref 147, .int x1, .int v12] [] (md wc f A) _
            refine pe_iload_n (j := 2) (by decide +kernel) rfl ?_
            refine pe_iconstv (n := 0) (v := 0) (by decide +kernel) (by decide +kernel) ?_
            refine pe_aload_n (j := 0) (by decide +kernel) rfl ?_
            refine pe_get (j := 7) (ci := 12) (n := 0) (by decide +kernel) (by decide +kernel) (md_o hc) rfl ?_
            refine pe_iload_n (j := 1) (by decide +kernel) rfl ?_
            refine mz_ld148 (by decide +kernel) hc hI rfl (by omega) (by omega) (fun v25 ev25 pv25 => ?_)
            rw [ev25.trans ev13.symm]
            clear pv25 ev25 v25
            refine pe_iconstv (n := 1) (v := 1) (by decide +kernel) (by decide +kernel) ?_
            refine pz_sub (by decide +kernel) rfl kz_1 (by omega) (by omega) (fun z26 hz26 => ?_)
            refine pi_S (j := 119) (mj := 199) (by decide +kernel) (by decide +kernel) rfl ?_
            show pmE pg X pg_tyl pg_cl (d) 199 0 [.int v12, .int 0, .int z26] [] (md wc f A) _
            refine pe_iload_n (j := 0) (by decide +kernel) rfl ?_
            refine pe_iload_n (j := 1) (by decide +kernel) rfl ?_
            have lw28 := zi_lo v12
            have uw28 := zi_hi v12
            refine pz_icmp_lt (off := 12) (t := 14) (by decide +kernel) (by decide) rfl rfl kz_0 (fun h27 => ?_) (fun h27 => ?_)
            · skip
              refine pe_iconstv (n := 0) (v := 0) (by decide +kernel) (by decide +kernel) ?_
              refine pe_iret (by decide +kernel) rfl rfl ⟨rfl, rfl, ?_⟩
              show pmE pg X pg_tyl pg_cl (d + 1) 221 13 [.ref 147, .int x1, .int v12] [.int 0] (md wc f A) _
              refine pe_iret (by decide +kernel) rfl rfl ⟨rfl, rfl, ?_⟩
              show pmE pg X pg_tyl pg_cl (d + 2) 233 91 [.ref 147, .int x1, .int x2, .int x3, .int x4, .int x5, .int v7, .int v12] [.int 0] (md wc f A) _
              refine pz_if_eq (off := 27) (t := 118) (by decide +kernel) (by decide) rfl kz_0 (fun h29 => ?_) (fun h29 => by omega)
              refine pe_iconstv (n := 0) (v := 0) (by decide +kernel) (by decide +kernel) ?_
              refine pe_istore (j := 4) (ls' := [.ref 147, .int x1, .int x2, .int x3, .int 0, .int x5, .int v7, .int v12]) (by decide +kernel) (Nat.le_of_ble_eq_true rfl) rfl ?_
              refine pz_iinc (j := 5) (n := 1) (by decide +kernel) rfl rfl (by decide +kernel) (by omega) (by omega) (fun z30 hz30 => ?_)
              show pmE pg X pg_tyl pg_cl (d + 2) 233 124 [.ref 147, .int x1, .int x2, .int x3, .int 0, .int z30, .int v7, .int v12] [] (md wc f A) _
              refine pe_goto (off := (-91)) (t := 33) (by decide +kernel) (by decide) rfl ?_
              have hq31 : (∀ j : Int, (x2.toInt + 3) ≤ j → j < (x2.toInt + z30.toInt + 3) → ((0 : Int32).toInt) = 1 → 0 ≤ ((A 148).getD j.toNat 0).toInt ∧ ((A 148).getD j.toNat 0).toInt ≤ 8) := by
                intro j h1 h2 h3
                have hl_x4 := kz_0
                first
                | (exfalso; omega)
                | exact hv0 j (by omega) (by omega) (by omega)
                | (by_cases e : (x2.toInt + 3) ≤ j ∧ j < (x2.toInt + x5.toInt + 3)
                   · exact hv0 j e.1 e.2 (by omega)
                   · have e3 : j.toNat = (((x2.toInt + 3) + x5.toInt)).toNat := by omega
                     rw [e3, ← ev7]; omega)
                | (by_cases e : (x2.toInt + 3) ≤ j ∧ j < (x2.toInt + x5.toInt + 3)
                   · exact hv0 j e.1 e.2 (by omega)
                   · have e3 : j.toNat = (((x2.toInt + 3) + z10.toInt)).toNat := by omega
                     rw [e3, ← ev12]; omega)
                | (by_cases e : (x2.toInt + 3) ≤ j ∧ j < (x2.toInt + x5.toInt + 3)
                   · exact hv0 j e.1 e.2 (by omega)
                   · have e3 : j.toNat = (x1.toInt).toNat := by omega
                     rw [e3, ← ev13]; omega)
              exact ih 0 z30 (.int v7) (.int v12) (by decide +kernel) (by omega) hq31 (by omega)
            · skip
              refine pe_iload_n (j := 0) (by decide +kernel) rfl ?_
              refine pe_iload_n (j := 2) (by decide +kernel) rfl ?_
              refine pz_icmp_gt (off := 7) (t := 14) (by decide +kernel) (by decide) rfl rfl hz26 (fun h32 => ?_) (fun h32 => ?_)
              · skip
                refine pe_iconstv (n := 0) (v := 0) (by decide +kernel) (by decide +kernel) ?_
                refine pe_iret (by decide +kernel) rfl rfl ⟨rfl, rfl, ?_⟩
                show pmE pg X pg_tyl pg_cl (d + 1) 221 13 [.ref 147, .int x1, .int v12] [.int 0] (md wc f A) _
                refine pe_iret (by decide +kernel) rfl rfl ⟨rfl, rfl, ?_⟩
                show pmE pg X pg_tyl pg_cl (d + 2) 233 91 [.ref 147, .int x1, .int x2, .int x3, .int x4, .int x5, .int v7, .int v12] [.int 0] (md wc f A) _
                refine pz_if_eq (off := 27) (t := 118) (by decide +kernel) (by decide) rfl kz_0 (fun h33 => ?_) (fun h33 => by omega)
                refine pe_iconstv (n := 0) (v := 0) (by decide +kernel) (by decide +kernel) ?_
                refine pe_istore (j := 4) (ls' := [.ref 147, .int x1, .int x2, .int x3, .int 0, .int x5, .int v7, .int v12]) (by decide +kernel) (Nat.le_of_ble_eq_true rfl) rfl ?_
                refine pz_iinc (j := 5) (n := 1) (by decide +kernel) rfl rfl (by decide +kernel) (by omega) (by omega) (fun z34 hz34 => ?_)
                show pmE pg X pg_tyl pg_cl (d + 2) 233 124 [.ref 147, .int x1, .int x2, .int x3, .int 0, .int z34, .int v7, .int v12] [] (md wc f A) _
                refine pe_goto (off := (-91)) (t := 33) (by decide +kernel) (by decide) rfl ?_
                have hq35 : (∀ j : Int, (x2.toInt + 3) ≤ j → j < (x2.toInt + z34.toInt + 3) → ((0 : Int32).toInt) = 1 → 0 ≤ ((A 148).getD j.toNat 0).toInt ∧ ((A 148).getD j.toNat 0).toInt ≤ 8) := by
                  intro j h1 h2 h3
                  have hl_x4 := kz_0
                  first
                  | (exfalso; omega)
                  | exact hv0 j (by omega) (by omega) (by omega)
                  | (by_cases e : (x2.toInt + 3) ≤ j ∧ j < (x2.toInt + x5.toInt + 3)
                     · exact hv0 j e.1 e.2 (by omega)
                     · have e3 : j.toNat = (((x2.toInt + 3) + x5.toInt)).toNat := by omega
                       rw [e3, ← ev7]; omega)
                  | (by_cases e : (x2.toInt + 3) ≤ j ∧ j < (x2.toInt + x5.toInt + 3)
                     · exact hv0 j e.1 e.2 (by omega)
                     · have e3 : j.toNat = (((x2.toInt + 3) + z10.toInt)).toNat := by omega
                       rw [e3, ← ev12]; omega)
                  | (by_cases e : (x2.toInt + 3) ≤ j ∧ j < (x2.toInt + x5.toInt + 3)
                     · exact hv0 j e.1 e.2 (by omega)
                     · have e3 : j.toNat = (x1.toInt).toNat := by omega
                       rw [e3, ← ev13]; omega)
                exact ih 0 z34 (.int v7) (.int v12) (by decide +kernel) (by omega) hq35 (by omega)
              · skip
                refine pe_iconstv (n := 1) (v := 1) (by decide +kernel) (by decide +kernel) ?_
                refine pe_goto (off := 4) (t := 15) (by decide +kernel) (by decide) rfl ?_
                refine pe_iret (by decide +kernel) rfl rfl ⟨rfl, rfl, ?_⟩
                show pmE pg X pg_tyl pg_cl (d + 1) 221 13 [.ref 147, .int x1, .int v12] [.int 1] (md wc f A) _
                refine pe_iret (by decide +kernel) rfl rfl ⟨rfl, rfl, ?_⟩
                show pmE pg X pg_tyl pg_cl (d + 2) 233 91 [.ref 147, .int x1, .int x2, .int x3, .int x4, .int x5, .int v7, .int v12] [.int 1] (md wc f A) _
                refine pz_if_eq (off := 27) (t := 118) (by decide +kernel) (by decide) rfl kz_1 (fun h36 => by omega) (fun h36 => ?_)
                refine pe_aload_n (j := 0) (by decide +kernel) rfl ?_
                refine pe_iload_n (j := 1) (by decide +kernel) rfl ?_
                refine pe_iload (j := 6) (by decide +kernel) rfl ?_
                refine pe_iload (j := 7) (by decide +kernel) rfl ?_
                refine pz_callV (j := 199) (mj := 231) (by decide +kernel) (cll_V (args := [.int v12, .int v7, .int x1]) (n := 3) (by decide +kernel) rfl rfl (md_o hc) (by decide +kernel) (Nat.le_of_ble_eq_true rfl) (Nat.le_of_ble_eq_true rfl)) (MM_231 hc hI (by omega) (by omega) (by omega)) (fun q37a q37b q37c q37d hqq37 => ?_)
                obtain ⟨rq37, eq37, kq37⟩ := hqq37
                cases eq37
                refine ⟨rfl, rfl, ?_⟩
                show pmE pg X pg_tyl pg_cl (d + 2) 233 103 [.ref 147, .int x1, .int x2, .int x3, .int x4, .int x5, .int v7, .int v12] [.int rq37] (md wc f A) _
                refine pe_aload_n (j := 0) (by decide +kernel) rfl ?_
                refine pe_get (j := 7) (ci := 12) (n := 0) (by decide +kernel) (by decide +kernel) (md_o hc) rfl ?_
                refine pe_iload_n (j := 2) (by decide +kernel) rfl ?_
                refine pe_iconstv (n := 1) (v := 1) (by decide +kernel) (by decide +kernel) ?_
                refine pz_add (by decide +kernel) rfl kz_1 (by omega) (by omega) (fun z38 hz38 => ?_)
                refine mz_ld148 (by decide +kernel) hc hI hz38 (by omega) (by omega) (fun v39 ev39 pv39 => ?_)
                clear pv39
                clear hz38
                have lw41 := zi_lo rq37
                have uw41 := zi_hi rq37
                have lw42 := zi_lo v39
                have uw42 := zi_hi v39
                refine pz_icmp_lt (off := 7) (t := 118) (by decide +kernel) (by decide) rfl rfl rfl (fun h40 => ?_) (fun h40 => ?_)
                · skip
                  refine pe_iconstv (n := 0) (v := 0) (by decide +kernel) (by decide +kernel) ?_
                  refine pe_istore (j := 4) (ls' := [.ref 147, .int x1, .int x2, .int x3, .int 0, .int x5, .int v7, .int v12]) (by decide +kernel) (Nat.le_of_ble_eq_true rfl) rfl ?_
                  refine pz_iinc (j := 5) (n := 1) (by decide +kernel) rfl rfl (by decide +kernel) (by omega) (by omega) (fun z43 hz43 => ?_)
                  show pmE pg X pg_tyl pg_cl (d + 2) 233 124 [.ref 147, .int x1, .int x2, .int x3, .int 0, .int z43, .int v7, .int v12] [] (md wc f A) _
                  refine pe_goto (off := (-91)) (t := 33) (by decide +kernel) (by decide) rfl ?_
                  have hq44 : (∀ j : Int, (x2.toInt + 3) ≤ j → j < (x2.toInt + z43.toInt + 3) → ((0 : Int32).toInt) = 1 → 0 ≤ ((A 148).getD j.toNat 0).toInt ∧ ((A 148).getD j.toNat 0).toInt ≤ 8) := by
                    intro j h1 h2 h3
                    have hl_x4 := kz_0
                    first
                    | (exfalso; omega)
                    | exact hv0 j (by omega) (by omega) (by omega)
                    | (by_cases e : (x2.toInt + 3) ≤ j ∧ j < (x2.toInt + x5.toInt + 3)
                       · exact hv0 j e.1 e.2 (by omega)
                       · have e3 : j.toNat = (((x2.toInt + 3) + x5.toInt)).toNat := by omega
                         rw [e3, ← ev7]; omega)
                    | (by_cases e : (x2.toInt + 3) ≤ j ∧ j < (x2.toInt + x5.toInt + 3)
                       · exact hv0 j e.1 e.2 (by omega)
                       · have e3 : j.toNat = (((x2.toInt + 3) + z10.toInt)).toNat := by omega
                         rw [e3, ← ev12]; omega)
                    | (by_cases e : (x2.toInt + 3) ≤ j ∧ j < (x2.toInt + x5.toInt + 3)
                       · exact hv0 j e.1 e.2 (by omega)
                       · have e3 : j.toNat = (x1.toInt).toNat := by omega
                         rw [e3, ← ev13]; omega)
                    | (by_cases e : (x2.toInt + 3) ≤ j ∧ j < (x2.toInt + x5.toInt + 3)
                       · exact hv0 j e.1 e.2 (by omega)
                       · have e3 : j.toNat = ((x2.toInt + 1)).toNat := by omega
                         rw [e3, ← ev39]; omega)
                  exact ih 0 z43 (.int v7) (.int v12) (by decide +kernel) (by omega) hq44 (by omega)
                · skip
                  refine pe_iconstv (n := 1) (v := 1) (by decide +kernel) (by decide +kernel) ?_
                  refine pe_goto (off := 4) (t := 119) (by decide +kernel) (by decide) rfl ?_
                  refine pe_istore (j := 4) (ls' := [.ref 147, .int x1, .int x2, .int x3, .int 1, .int x5, .int v7, .int v12]) (by decide +kernel) (Nat.le_of_ble_eq_true rfl) rfl ?_
                  refine pz_iinc (j := 5) (n := 1) (by decide +kernel) rfl rfl (by decide +kernel) (by omega) (by omega) (fun z45 hz45 => ?_)
                  show pmE pg X pg_tyl pg_cl (d + 2) 233 124 [.ref 147, .int x1, .int x2, .int x3, .int 1, .int z45, .int v7, .int v12] [] (md wc f A) _
                  refine pe_goto (off := (-91)) (t := 33) (by decide +kernel) (by decide) rfl ?_
                  have hq46 : (∀ j : Int, (x2.toInt + 3) ≤ j → j < (x2.toInt + z45.toInt + 3) → ((1 : Int32).toInt) = 1 → 0 ≤ ((A 148).getD j.toNat 0).toInt ∧ ((A 148).getD j.toNat 0).toInt ≤ 8) := by
                    intro j h1 h2 h3
                    have hl_x4 := kz_1
                    first
                    | (exfalso; omega)
                    | exact hv0 j (by omega) (by omega) (by omega)
                    | (by_cases e : (x2.toInt + 3) ≤ j ∧ j < (x2.toInt + x5.toInt + 3)
                       · exact hv0 j e.1 e.2 (by omega)
                       · have e3 : j.toNat = (((x2.toInt + 3) + x5.toInt)).toNat := by omega
                         rw [e3, ← ev7]; omega)
                    | (by_cases e : (x2.toInt + 3) ≤ j ∧ j < (x2.toInt + x5.toInt + 3)
                       · exact hv0 j e.1 e.2 (by omega)
                       · have e3 : j.toNat = (((x2.toInt + 3) + z10.toInt)).toNat := by omega
                         rw [e3, ← ev12]; omega)
                    | (by_cases e : (x2.toInt + 3) ≤ j ∧ j < (x2.toInt + x5.toInt + 3)
                       · exact hv0 j e.1 e.2 (by omega)
                       · have e3 : j.toNat = (x1.toInt).toNat := by omega
                         rw [e3, ← ev13]; omega)
                    | (by_cases e : (x2.toInt + 3) ≤ j ∧ j < (x2.toInt + x5.toInt + 3)
                       · exact hv0 j e.1 e.2 (by omega)
                       · have e3 : j.toNat = ((x2.toInt + 1)).toNat := by omega
                         rw [e3, ← ev39]; omega)
                  exact ih 1 z45 (.int v7) (.int v12) (by decide +kernel) (by omega) hq46 (by omega)
set_option maxRecDepth 100000 in
set_option maxHeartbeats 8000000 in
theorem ML_233_2 {X : pm_X} {d : Nat} {wc : pm_W} {Q : pm_R → Prop} {f : Nat → Int32} {A : Nat → List Int32} {x1 x2 : Int32} (hc : wc.length = 147) (hI : MI f A) (gx1 : (610 ≤ x1.toInt ∧ x1.toInt ≤ 742 ∧ (x1.toInt - 610) % 132 = 0)) (gx2 : (875 ≤ x2.toInt ∧ x2.toInt ≤ 1680)) (k_27_0 : ∀ (y3 : Int32), (0 ≤ y3.toInt ∧ y3.toInt ≤ 6) → pmE pg X pg_tyl pg_cl (d + 2) 233 27 [.ref 147, .int x1, .int x2, .int y3, pm_dead, pm_dead, pm_dead, pm_dead] [] (md wc f A) Q) : ∀ (m : Nat) (x3 : Int32), (0 ≤ x3.toInt ∧ x3.toInt ≤ 6) → 6 - x3.toInt < (m : Int) → pmE pg X pg_tyl pg_cl (d + 2) 233 2 [.ref 147, .int x1, .int x2, .int x3, pm_dead, pm_dead, pm_dead, pm_dead] [] (md wc f A) Q := by
  intro m
  induction m with
  | zero =>
    intro x3 gx3 hm
    exfalso
    have l0 := zi_lo x3
    have u0 := zi_hi x3
    omega
  | succ m ih =>
    intro x3 gx3 hm
    refine pe_iload_n (j := 3) (by decide +kernel) rfl ?_
    refine pe_bipushv (n := 6) (v := 6) (by decide +kernel) (by decide +kernel) ?_
    refine pz_icmp_ge (off := 22) (t := 27) (by decide +kernel) (by decide) rfl rfl kz_6 (fun h1 => ?_) (fun h1 => ?_)
    · skip
      exact k_27_0 x3 (by omega)
    · skip
      refine pe_aload_n (j := 0) (by decide +kernel) rfl ?_
      refine pe_get (j := 7) (ci := 12) (n := 0) (by decide +kernel) (by decide +kernel) (md_o hc) rfl ?_
      refine pe_iload_n (j := 2) (by decide +kernel) rfl ?_
      refine pe_iconstv (n := 3) (v := 3) (by decide +kernel) (by decide +kernel) ?_
      refine pz_add (by decide +kernel) rfl kz_3 (by omega) (by omega) (fun z2 hz2 => ?_)
      refine pe_iload_n (j := 3) (by decide +kernel) rfl ?_
      refine pz_add (by decide +kernel) hz2 rfl (by omega) (by omega) (fun z3 hz3 => ?_)
      clear hz2
      refine mz_ld148 (by decide +kernel) hc hI hz3 (by omega) (by omega) (fun v4 ev4 pv4 => ?_)
      clear pv4
      clear hz3
      have lw6 := zi_lo v4
      have uw6 := zi_hi v4
      refine pz_if_lt (off := 9) (t := 27) (by decide +kernel) (by decide) rfl rfl (fun h5 => ?_) (fun h5 => ?_)
      · skip
        exact k_27_0 x3 (by omega)
      · skip
        refine pz_iinc (j := 3) (n := 1) (by decide +kernel) rfl rfl (by decide +kernel) (by omega) (by omega) (fun z7 hz7 => ?_)
        show pmE pg X pg_tyl pg_cl (d + 2) 233 24 [.ref 147, .int x1, .int x2, .int z7, pm_dead, pm_dead, pm_dead, pm_dead] [] (md wc f A) _
        refine pe_goto (off := (-22)) (t := 2) (by decide +kernel) (by decide) rfl ?_
        exact ih z7 (by omega) (by omega)
set_option maxRecDepth 100000 in
set_option maxHeartbeats 8000000 in
theorem MM_233 {X : pm_X} {d : Nat} {wc : pm_W} {f : Nat → Int32} {A : Nat → List Int32} {x1 x2 : Int32} (hc : wc.length = 147) (hI : MI f A) (gx1 : (610 ≤ x1.toInt ∧ x1.toInt ≤ 742 ∧ (x1.toInt - 610) % 132 = 0)) (gx2 : (875 ≤ x2.toInt ∧ x2.toInt ≤ 1680)) (hp14 : (0 ≤ (f 14).toInt ∧ (f 14).toInt ≤ 29)) : pmE pg X pg_tyl pg_cl (d + 2) 233 0 (pm_ent (pm_max pg 233) [.ref 147, .int x1, .int x2]) [] (md wc f A) (fun q => ∃ (f' : Nat → Int32) (A' : Nat → List Int32) (r : Int32), q = (some (.int r), md wc f' A', 0, 0) ∧ MI f' A' ∧ (∀ k : Nat, k ≠ 14 → f' k = f k) ∧ (∀ k : Nat, k ≠ 152 → k ≠ 153 → A' k = A k) ∧ ((f' 14).toInt + (-1) * (f 14).toInt + (-1)) ≤ 0 ∧ ((r = 1 ∧ True) ∨ (r = 0 ∧ True))) := by
  show pmE pg X pg_tyl pg_cl (d + 2) 233 0 [.ref 147, .int x1, .int x2, pm_dead, pm_dead, pm_dead, pm_dead, pm_dead] [] (md wc f A) _
  refine pe_iconstv (n := 0) (v := 0) (by decide +kernel) (by decide +kernel) ?_
  refine pe_istore_n (j := 3) (ls' := [.ref 147, .int x1, .int x2, .int 0, pm_dead, pm_dead, pm_dead, pm_dead]) (by decide +kernel) (Nat.le_of_ble_eq_true rfl) rfl ?_
  refine ML_233_2 hc hI (by omega) (by omega) (fun y1 gy1 => ?_) 7 0 (by decide +kernel) (by decide +kernel)
  refine pe_iconstv (n := 1) (v := 1) (by decide +kernel) (by decide +kernel) ?_
  refine pe_istore (j := 4) (ls' := [.ref 147, .int x1, .int x2, .int y1, .int 1, pm_dead, pm_dead, pm_dead]) (by decide +kernel) (Nat.le_of_ble_eq_true rfl) rfl ?_
  refine pe_iconstv (n := 0) (v := 0) (by decide +kernel) (by decide +kernel) ?_
  refine pe_istore (j := 5) (ls' := [.ref 147, .int x1, .int x2, .int y1, .int 1, .int 0, pm_dead, pm_dead]) (by decide +kernel) (Nat.le_of_ble_eq_true rfl) rfl ?_
  have hq14 : (∀ j : Int, (x2.toInt + 3) ≤ j → j < (x2.toInt + (0 : Int32).toInt + 3) → ((1 : Int32).toInt) = 1 → 0 ≤ ((A 148).getD j.toNat 0).toInt ∧ ((A 148).getD j.toNat 0).toInt ≤ 8) := by
    intro j h1 h2 h3
    have hl_x4 := kz_1
    have hl_x5 := kz_0
    first
    | (exfalso; omega)
  refine ML_233_33 hc hI (by omega) (by omega) (by omega) (fun y2 y3 u4 u5 gy2 gy3 hr6 hq7 => ?_) (fun y8 y9 u10 u11 gy8 gy9 hr12 hq13 => ?_) 7 1 0 (pm_dead) (pm_dead) (by decide +kernel) (by decide +kernel) hq14 (by decide +kernel)
  · skip
    refine pe_iload (j := 4) (by decide +kernel) rfl ?_
    refine pz_if_ne (off := 5) (t := 134) (by decide +kernel) (by decide) rfl rfl (fun h15 => ?_) (fun h15 => ?_)
    · skip
      refine pe_bipushv (n := 10) (v := 10) (by decide +kernel) (by decide +kernel) ?_
      refine pe_aload_n (j := 0) (by decide +kernel) rfl ?_
      refine pe_get (j := 175) (ci := 12) (n := 14) (by decide +kernel) (by decide +kernel) (md_o hc) rfl ?_
      refine pz_mul (by decide +kernel) kz_10 rfl (by omega) (by omega) (fun z16 hz16 => ?_)
      refine pe_istore (j := 5) (ls' := [.ref 147, .int x1, .int x2, .int y1, .int y2, .int z16, u4, u5]) (by decide +kernel) (Nat.le_of_ble_eq_true rfl) rfl ?_
      refine pe_aload_n (j := 0) (by decide +kernel) rfl ?_
      refine pe_get (j := 26) (ci := 12) (n := 13) (by decide +kernel) (by decide +kernel) (md_o hc) rfl ?_
      refine pe_iload (j := 5) (by decide +kernel) rfl ?_
      refine pe_iload_n (j := 3) (by decide +kernel) rfl ?_
      refine mz_st153 (by decide +kernel) hc hI hz16 (by omega) (by omega) (by simp only [MP_rings]; omega) (fun A17 eA17 hIA17 => ?_)
      refine pe_aload_n (j := 0) (by decide +kernel) rfl ?_
      refine pe_get (j := 26) (ci := 12) (n := 13) (by decide +kernel) (by decide +kernel) (md_o hc) rfl ?_
      refine pe_iload (j := 5) (by decide +kernel) rfl ?_
      refine pe_iconstv (n := 1) (v := 1) (by decide +kernel) (by decide +kernel) ?_
      refine pz_add (by decide +kernel) hz16 kz_1 (by omega) (by omega) (fun z18 hz18 => ?_)
      refine pe_aload_n (j := 0) (by decide +kernel) rfl ?_
      refine pe_get (j := 7) (ci := 12) (n := 0) (by decide +kernel) (by decide +kernel) (md_o hc) rfl ?_
      refine pe_iload_n (j := 2) (by decide +kernel) rfl ?_
      refine pe_iconstv (n := 1) (v := 1) (by decide +kernel) (by decide +kernel) ?_
      refine pz_add (by decide +kernel) rfl kz_1 (by omega) (by omega) (fun z19 hz19 => ?_)
      refine mz_ld148 (by decide +kernel) hc hIA17 hz19 (by omega) (by omega) (fun v20 ev20 pv20 => ?_)
      rw [show A17 148 = A 148 from upa_fr eA17 (by decide)] at ev20
      clear pv20
      clear hz19
      refine mz_st153 (by decide +kernel) hc hIA17 hz18 (by omega) (by omega) (by simp only [MP_rings]; omega) (fun A21 eA21 hIA21 => ?_)
      refine pe_aload_n (j := 0) (by decide +kernel) rfl ?_
      refine pe_get (j := 26) (ci := 12) (n := 13) (by decide +kernel) (by decide +kernel) (md_o hc) rfl ?_
      refine pe_iload (j := 5) (by decide +kernel) rfl ?_
      refine pe_iconstv (n := 2) (v := 2) (by decide +kernel) (by decide +kernel) ?_
      refine pz_add (by decide +kernel) hz16 kz_2 (by omega) (by omega) (fun z22 hz22 => ?_)
      refine pe_aload_n (j := 0) (by decide +kernel) rfl ?_
      refine pe_get (j := 7) (ci := 12) (n := 0) (by decide +kernel) (by decide +kernel) (md_o hc) rfl ?_
      refine pe_iload_n (j := 2) (by decide +kernel) rfl ?_
      refine pe_iconstv (n := 2) (v := 2) (by decide +kernel) (by decide +kernel) ?_
      refine pz_add (by decide +kernel) rfl kz_2 (by omega) (by omega) (fun z23 hz23 => ?_)
      refine mz_ld148 (by decide +kernel) hc hIA21 hz23 (by omega) (by omega) (fun v24 ev24 pv24 => ?_)
      rw [show A21 148 = A 148 from (upa_fr eA21 (by decide)).trans (upa_fr eA17 (by decide))] at ev24
      clear pv24
      clear hz23
      refine mz_st153 (by decide +kernel) hc hIA21 hz22 (by omega) (by omega) (by simp only [MP_rings]; omega) (fun A25 eA25 hIA25 => ?_)
      refine pe_aload_n (j := 0) (by decide +kernel) rfl ?_
      refine pe_get (j := 26) (ci := 12) (n := 13) (by decide +kernel) (by decide +kernel) (md_o hc) rfl ?_
      refine pe_iload (j := 5) (by decide +kernel) rfl ?_
      refine pe_iconstv (n := 3) (v := 3) (by decide +kernel) (by decide +kernel) ?_
      refine pz_add (by decide +kernel) hz16 kz_3 (by omega) (by omega) (fun z26 hz26 => ?_)
      refine pe_iconstv (n := 1) (v := 1) (by decide +kernel) (by decide +kernel) ?_
      refine mz_st153 (by decide +kernel) hc hIA25 hz26 (by omega) (by omega) (by rw [kz_1]; simp only [MP_rings]; omega) (fun A27 eA27 hIA27 => ?_)
      refine pe_iconstv (n := 0) (v := 0) (by decide +kernel) (by decide +kernel) ?_
      refine pe_istore (j := 6) (ls' := [.ref 147, .int x1, .int x2, .int y1, .int y2, .int z16, .int 0, u5]) (by decide +kernel) (Nat.le_of_ble_eq_true rfl) rfl ?_
      have hk28 : (∀ j : Int, (x2.toInt + 3) ≤ j → j < (x2.toInt + y1.toInt + 3) → 0 ≤ ((A27 148).getD j.toNat 0).toInt ∧ ((A27 148).getD j.toNat 0).toInt ≤ 8) := by
        intro j h1 h2
        rw [show A27 148 = A 148 from (upa_fr eA27 (by decide)).trans ((upa_fr eA25 (by decide)).trans ((upa_fr eA21 (by decide)).trans (upa_fr eA17 (by decide))))]
        first
        | (exfalso; omega)
        | exact hq7 j (by omega) (by omega) (by omega)
        | (by_cases e : (x2.toInt + 3) ≤ j ∧ j < (x2.toInt + y3.toInt + 3)
           · exact hq7 j e.1 e.2 (by omega)
           · have e3 : j.toNat = ((x2.toInt + 1)).toNat := by omega
             rw [e3, ← ev20]; omega)
        | (by_cases e : (x2.toInt + 3) ≤ j ∧ j < (x2.toInt + y3.toInt + 3)
           · exact hq7 j e.1 e.2 (by omega)
           · have e3 : j.toNat = ((x2.toInt + 2)).toNat := by omega
             rw [e3, ← ev24]; omega)
      refine ML_233_198 hc (by omega) (by omega) (by omega) (by omega) (by omega) (by omega) hk28 (fun A29 y31 hIy30 hFhIy30 gy31 hr32 => ?_) 7 A27 0 hIA27 (fun k _ => rfl) (by decide +kernel) (by decide +kernel)
      refine pe_aload_n (j := 0) (by decide +kernel) rfl ?_
      refine pe_dup (by decide +kernel) rfl ?_
      refine pe_get (j := 175) (ci := 12) (n := 14) (by decide +kernel) (by decide +kernel) (md_o hc) rfl ?_
      refine pe_iconstv (n := 1) (v := 1) (by decide +kernel) (by decide +kernel) ?_
      refine pz_add (by decide +kernel) rfl kz_1 (by omega) (by omega) (fun z33 hz33 => ?_)
      refine mz_put14 (jj := 175) (by decide +kernel) (by decide +kernel) hc hIy30 (by omega) (by omega) (fun f34 ef34 hIf34 => ?_)
      refine pe_iconstv (n := 0) (v := 0) (by decide +kernel) (by decide +kernel) ?_
      refine pe_istore (j := 6) (ls' := [.ref 147, .int x1, .int x2, .int y1, .int y2, .int z16, .int 0, u5]) (by decide +kernel) (Nat.le_of_ble_eq_true rfl) rfl ?_
      have hx40 : (f34 14).toInt = ((f 14).toInt + 1) := (congrArg Int32.toInt (show f34 14 = z33 from upf_at ef34)).trans hz33
      refine ML_233_246 hc (by omega) (by omega) (by omega) (by omega) (by omega) (fun A35 y37 hIy36 hFhIy36 gy37 hr38 hx39 => ?_) 7 A29 0 hIf34 (fun k _ => rfl) (by decide +kernel) (by omega) (by decide +kernel)
      refine pe_iconstv (n := 1) (v := 1) (by decide +kernel) (by decide +kernel) ?_
      have hx41 : (f34 14).toInt = ((f 14).toInt + 1) := (congrArg Int32.toInt (show f34 14 = z33 from upf_at ef34)).trans hz33
      exact pe_iret (by decide +kernel) rfl rfl ⟨f34, A35, 1, rfl, hIy36, (fun k n14 => upf_fr ef34 n14), (fun k n152 n153 => ((hFhIy36 k n152)).trans (((hFhIy30 k n153)).trans ((upa_fr eA27 n153).trans ((upa_fr eA25 n153).trans ((upa_fr eA21 n153).trans (upa_fr eA17 n153)))))), (by omega), Or.inl ⟨rfl, trivial⟩⟩
    · skip
      refine pe_iconstv (n := 0) (v := 0) (by decide +kernel) (by decide +kernel) ?_
      exact pe_iret (by decide +kernel) rfl rfl ⟨f, A, 0, rfl, hI, (fun k n14 => rfl), (fun k n152 n153 => rfl), (by omega), Or.inr (⟨rfl, trivial⟩)⟩
  · skip
    refine pe_iload (j := 4) (by decide +kernel) rfl ?_
    refine pz_if_ne (off := 5) (t := 134) (by decide +kernel) (by decide) rfl rfl (fun h42 => by omega) (fun h42 => ?_)
    refine pe_iconstv (n := 0) (v := 0) (by decide +kernel) (by decide +kernel) ?_
    exact pe_iret (by decide +kernel) rfl rfl ⟨f, A, 0, rfl, hI, (fun k n14 => rfl), (fun k n152 n153 => rfl), (by omega), Or.inr (⟨rfl, trivial⟩)⟩
end
section
set_option maxRecDepth 100000 in
set_option maxHeartbeats 8000000 in
theorem MM_230 {X : pm_X} {d : Nat} {wc : pm_W} {f : Nat → Int32} {A : Nat → List Int32} {x1 x2 : Int32} (hc : wc.length = 147) (hI : MI f A) (gx1 : (610 ≤ x1.toInt ∧ x1.toInt ≤ 742 ∧ (x1.toInt - 610) % 132 = 0)) (gx2 : (875 ≤ x2.toInt ∧ x2.toInt ≤ 1680)) (hp14 : (0 ≤ (f 14).toInt ∧ (f 14).toInt ≤ 29)) (ha0 : ∃ a b : Int, x2.toInt = 875 + 272 * a + 9 * b ∧ (0 ≤ a ∧ a ≤ 2) ∧ 0 ≤ b ∧ b ≤ 29) : pmE pg X pg_tyl pg_cl (d + 4) 230 0 (pm_ent (pm_max pg 230) [.ref 147, .int x1, .int x2]) [] (md wc f A) (fun q => ∃ (f' : Nat → Int32) (A' : Nat → List Int32) (r : Int32), q = (some (.int r), md wc f' A', 0, 0) ∧ MI f' A' ∧ (∀ k : Nat, k ≠ 14 → k ≠ 15 → f' k = f k) ∧ (∀ k : Nat, k ≠ 152 → k ≠ 153 → A' k = A k) ∧ ((f' 14).toInt + (-1) * (f 14).toInt + (-1)) ≤ 0 ∧ ((r = 0 ∧ True) ∨ (r = 1 ∧ True))) := by
  show pmE pg X pg_tyl pg_cl (d + 4) 230 0 [.ref 147, .int x1, .int x2, pm_dead, pm_dead, pm_dead, pm_dead] [] (md wc f A) _
  refine pe_aload_n (j := 0) (by decide +kernel) rfl ?_
  refine pe_get (j := 7) (ci := 12) (n := 0) (by decide +kernel) (by decide +kernel) (md_o hc) rfl ?_
  refine pe_iload_n (j := 2) (by decide +kernel) rfl ?_
  refine mz_ld148 (by decide +kernel) hc hI rfl (by omega) (by omega) (fun v1 ev1 pv1 => ?_)
  clear pv1
  refine pe_istore_n (j := 3) (ls' := [.ref 147, .int x1, .int x2, .int v1, pm_dead, pm_dead, pm_dead]) (by decide +kernel) (Nat.le_of_ble_eq_true rfl) rfl ?_
  refine pe_aload_n (j := 0) (by decide +kernel) rfl ?_
  refine pe_get (j := 7) (ci := 12) (n := 0) (by decide +kernel) (by decide +kernel) (md_o hc) rfl ?_
  refine pe_iload_n (j := 2) (by decide +kernel) rfl ?_
  refine pe_iconstv (n := 1) (v := 1) (by decide +kernel) (by decide +kernel) ?_
  refine pz_add (by decide +kernel) rfl kz_1 (by omega) (by omega) (fun z2 hz2 => ?_)
  refine mz_ld148 (by decide +kernel) hc hI hz2 (by omega) (by omega) (fun v3 ev3 pv3 => ?_)
  clear pv3
  clear hz2
  refine pe_istore (j := 4) (ls' := [.ref 147, .int x1, .int x2, .int v1, .int v3, pm_dead, pm_dead]) (by decide +kernel) (Nat.le_of_ble_eq_true rfl) rfl ?_
  refine pe_iload_n (j := 3) (by decide +kernel) rfl ?_
  have lw5 := zi_lo v1
  have uw5 := zi_hi v1
  refine pz_if_eq (off := 8) (t := 26) (by decide +kernel) (by decide) rfl rfl (fun h4 => ?_) (fun h4 => ?_)
  · skip
    refine pe_aload_n (j := 0) (by decide +kernel) rfl ?_
    refine pe_get (j := 7) (ci := 12) (n := 0) (by decide +kernel) (by decide +kernel) (md_o hc) rfl ?_
    refine pe_iload_n (j := 2) (by decide +kernel) rfl ?_
    refine pe_iconstv (n := 2) (v := 2) (by decide +kernel) (by decide +kernel) ?_
    refine pz_add (by decide +kernel) rfl kz_2 (by omega) (by omega) (fun z6 hz6 => ?_)
    refine mz_ld148 (by decide +kernel) hc hI hz6 (by omega) (by omega) (fun v7 ev7 pv7 => ?_)
    clear pv7
    clear hz6
    refine pe_istore (j := 5) (ls' := [.ref 147, .int x1, .int x2, .int v1, .int v3, .int v7, pm_dead]) (by decide +kernel) (Nat.le_of_ble_eq_true rfl) rfl ?_
    refine pe_aload_n (j := 0) (by decide +kernel) rfl ?_
    refine pe_get (j := 7) (ci := 12) (n := 0) (by decide +kernel) (by decide +kernel) (md_o hc) rfl ?_
    refine pe_iload_n (j := 2) (by decide +kernel) rfl ?_
    refine pe_iconstv (n := 3) (v := 3) (by decide +kernel) (by decide +kernel) ?_
    refine pz_add (by decide +kernel) rfl kz_3 (by omega) (by omega) (fun z8 hz8 => ?_)
    refine mz_ld148 (by decide +kernel) hc hI hz8 (by omega) (by omega) (fun v9 ev9 pv9 => ?_)
    clear pv9
    clear hz8
    refine pe_istore (j := 6) (ls' := [.ref 147, .int x1, .int x2, .int v1, .int v3, .int v7, .int v9]) (by decide +kernel) (Nat.le_of_ble_eq_true rfl) rfl ?_
    refine pe_aload_n (j := 0) (by decide +kernel) rfl ?_
    refine pe_iload_n (j := 1) (by decide +kernel) rfl ?_
    refine pe_iload (j := 4) (by decide +kernel) rfl ?_
    refine pi_V (j := 166) (mj := 221) (by decide +kernel) (cll_V (args := [.int v3, .int x1]) (n := 2) (by decide +kernel) rfl rfl (md_o hc) (by decide +kernel) (Nat.le_of_ble_eq_true rfl) (Nat.le_of_ble_eq_true rfl)) ?_
    show pmE pg X pg_tyl pg_cl (d + 3) 221 0 [.ref 147, .int x1, .int v3] [] (md wc f A) _
    refine pe_iload_n (j := 2) (by decide +kernel) rfl ?_
    refine pe_iconstv (n := 0) (v := 0) (by decide +kernel) (by decide +kernel) ?_
    refine pe_aload_n (j := 0) (by decide +kernel) rfl ?_
    refine pe_get (j := 7) (ci := 12) (n := 0) (by decide +kernel) (by decide +kernel) (md_o hc) rfl ?_
    refine pe_iload_n (j := 1) (by decide +kernel) rfl ?_
    refine mz_ld148 (by decide +kernel) hc hI rfl (by omega) (by omega) (fun v10 ev10 pv10 => ?_)
    have rv10 : 0 ≤ v10.toInt ∧ v10.toInt ≤ 9 := MT_people pv10 (by omega)
    clear pv10
    refine pe_iconstv (n := 1) (v := 1) (by decide +kernel) (by decide +kernel) ?_
    refine pz_sub (by decide +kernel) rfl kz_1 (by omega) (by omega) (fun z11 hz11 => ?_)
    refine pi_S (j := 119) (mj := 199) (by decide +kernel) (by decide +kernel) rfl ?_
    show pmE pg X pg_tyl pg_cl (d + 2) 199 0 [.int v3, .int 0, .int z11] [] (md wc f A) _
    refine pe_iload_n (j := 0) (by decide +kernel) rfl ?_
    refine pe_iload_n (j := 1) (by decide +kernel) rfl ?_
    have lw13 := zi_lo v3
    have uw13 := zi_hi v3
    refine pz_icmp_lt (off := 12) (t := 14) (by decide +kernel) (by decide) rfl rfl kz_0 (fun h12 => ?_) (fun h12 => ?_)
    · skip
      refine pe_iconstv (n := 0) (v := 0) (by decide +kernel) (by decide +kernel) ?_
      refine pe_iret (by decide +kernel) rfl rfl ⟨rfl, rfl, ?_⟩
      show pmE pg X pg_tyl pg_cl (d + 3) 221 13 [.ref 147, .int x1, .int v3] [.int 0] (md wc f A) _
      refine pe_iret (by decide +kernel) rfl rfl ⟨rfl, rfl, ?_⟩
      show pmE pg X pg_tyl pg_cl (d + 4) 230 53 [.ref 147, .int x1, .int x2, .int v1, .int v3, .int v7, .int v9] [.int 0] (md wc f A) _
      refine pz_if_eq (off := 42) (t := 95) (by decide +kernel) (by decide) rfl kz_0 (fun h14 => ?_) (fun h14 => by omega)
      refine pe_iconstv (n := 0) (v := 0) (by decide +kernel) (by decide +kernel) ?_
      exact pe_iret (by decide +kernel) rfl rfl ⟨f, A, 0, rfl, hI, (fun k n14 n15 => rfl), (fun k n152 n153 => rfl), (by omega), Or.inl ⟨rfl, trivial⟩⟩
    · skip
      refine pe_iload_n (j := 0) (by decide +kernel) rfl ?_
      refine pe_iload_n (j := 2) (by decide +kernel) rfl ?_
      refine pz_icmp_gt (off := 7) (t := 14) (by decide +kernel) (by decide) rfl rfl hz11 (fun h15 => ?_) (fun h15 => ?_)
      · skip
        refine pe_iconstv (n := 0) (v := 0) (by decide +kernel) (by decide +kernel) ?_
        refine pe_iret (by decide +kernel) rfl rfl ⟨rfl, rfl, ?_⟩
        show pmE pg X pg_tyl pg_cl (d + 3) 221 13 [.ref 147, .int x1, .int v3] [.int 0] (md wc f A) _
        refine pe_iret (by decide +kernel) rfl rfl ⟨rfl, rfl, ?_⟩
        show pmE pg X pg_tyl pg_cl (d + 4) 230 53 [.ref 147, .int x1, .int x2, .int v1, .int v3, .int v7, .int v9] [.int 0] (md wc f A) _
        refine pz_if_eq (off := 42) (t := 95) (by decide +kernel) (by decide) rfl kz_0 (fun h16 => ?_) (fun h16 => by omega)
        refine pe_iconstv (n := 0) (v := 0) (by decide +kernel) (by decide +kernel) ?_
        exact pe_iret (by decide +kernel) rfl rfl ⟨f, A, 0, rfl, hI, (fun k n14 n15 => rfl), (fun k n152 n153 => rfl), (by omega), Or.inl ⟨rfl, trivial⟩⟩
      · skip
        refine pe_iconstv (n := 1) (v := 1) (by decide +kernel) (by decide +kernel) ?_
        refine pe_goto (off := 4) (t := 15) (by decide +kernel) (by decide) rfl ?_
        refine pe_iret (by decide +kernel) rfl rfl ⟨rfl, rfl, ?_⟩
        show pmE pg X pg_tyl pg_cl (d + 3) 221 13 [.ref 147, .int x1, .int v3] [.int 1] (md wc f A) _
        refine pe_iret (by decide +kernel) rfl rfl ⟨rfl, rfl, ?_⟩
        show pmE pg X pg_tyl pg_cl (d + 4) 230 53 [.ref 147, .int x1, .int x2, .int v1, .int v3, .int v7, .int v9] [.int 1] (md wc f A) _
        refine pz_if_eq (off := 42) (t := 95) (by decide +kernel) (by decide) rfl kz_1 (fun h17 => by omega) (fun h17 => ?_)
        refine pe_aload_n (j := 0) (by decide +kernel) rfl ?_
        refine pe_iload_n (j := 1) (by decide +kernel) rfl ?_
        refine pe_iload (j := 5) (by decide +kernel) rfl ?_
        refine pi_V (j := 166) (mj := 221) (by decide +kernel) (cll_V (args := [.int v7, .int x1]) (n := 2) (by decide +kernel) rfl rfl (md_o hc) (by decide +kernel) (Nat.le_of_ble_eq_true rfl) (Nat.le_of_ble_eq_true rfl)) ?_
        show pmE pg X pg_tyl pg_cl (d + 3) 221 0 [.ref 147, .int x1, .int v7] [] (md wc f A) _
        refine pe_iload_n (j := 2) (by decide +kernel) rfl ?_
        refine pe_iconstv (n := 0) (v := 0) (by decide +kernel) (by decide +kernel) ?_
        refine pe_aload_n (j := 0) (by decide +kernel) rfl ?_
        refine pe_get (j := 7) (ci := 12) (n := 0) (by decide +kernel) (by decide +kernel) (md_o hc) rfl ?_
        refine pe_iload_n (j := 1) (by decide +kernel) rfl ?_
        refine mz_ld148 (by decide +kernel) hc hI rfl (by omega) (by omega) (fun v18 ev18 pv18 => ?_)
        rw [ev18.trans ev10.symm]
        clear pv18 ev18 v18
        refine pe_iconstv (n := 1) (v := 1) (by decide +kernel) (by decide +kernel) ?_
        refine pz_sub (by decide +kernel) rfl kz_1 (by omega) (by omega) (fun z19 hz19 => ?_)
        refine pi_S (j := 119) (mj := 199) (by decide +kernel) (by decide +kernel) rfl ?_
        show pmE pg X pg_tyl pg_cl (d + 2) 199 0 [.int v7, .int 0, .int z19] [] (md wc f A) _
        refine pe_iload_n (j := 0) (by decide +kernel) rfl ?_
        refine pe_iload_n (j := 1) (by decide +kernel) rfl ?_
        have lw21 := zi_lo v7
        have uw21 := zi_hi v7
        refine pz_icmp_lt (off := 12) (t := 14) (by decide +kernel) (by decide) rfl rfl kz_0 (fun h20 => ?_) (fun h20 => ?_)
        · skip
          refine pe_iconstv (n := 0) (v := 0) (by decide +kernel) (by decide +kernel) ?_
          refine pe_iret (by decide +kernel) rfl rfl ⟨rfl, rfl, ?_⟩
          show pmE pg X pg_tyl pg_cl (d + 3) 221 13 [.ref 147, .int x1, .int v7] [.int 0] (md wc f A) _
          refine pe_iret (by decide +kernel) rfl rfl ⟨rfl, rfl, ?_⟩
          show pmE pg X pg_tyl pg_cl (d + 4) 230 63 [.ref 147, .int x1, .int x2, .int v1, .int v3, .int v7, .int v9] [.int 0] (md wc f A) _
          refine pz_if_eq (off := 32) (t := 95) (by decide +kernel) (by decide) rfl kz_0 (fun h22 => ?_) (fun h22 => by omega)
          refine pe_iconstv (n := 0) (v := 0) (by decide +kernel) (by decide +kernel) ?_
          exact pe_iret (by decide +kernel) rfl rfl ⟨f, A, 0, rfl, hI, (fun k n14 n15 => rfl), (fun k n152 n153 => rfl), (by omega), Or.inl ⟨rfl, trivial⟩⟩
        · skip
          refine pe_iload_n (j := 0) (by decide +kernel) rfl ?_
          refine pe_iload_n (j := 2) (by decide +kernel) rfl ?_
          refine pz_icmp_gt (off := 7) (t := 14) (by decide +kernel) (by decide) rfl rfl hz19 (fun h23 => ?_) (fun h23 => ?_)
          · skip
            refine pe_iconstv (n := 0) (v := 0) (by decide +kernel) (by decide +kernel) ?_
            refine pe_iret (by decide +kernel) rfl rfl ⟨rfl, rfl, ?_⟩
            show pmE pg X pg_tyl pg_cl (d + 3) 221 13 [.ref 147, .int x1, .int v7] [.int 0] (md wc f A) _
            refine pe_iret (by decide +kernel) rfl rfl ⟨rfl, rfl, ?_⟩
            show pmE pg X pg_tyl pg_cl (d + 4) 230 63 [.ref 147, .int x1, .int x2, .int v1, .int v3, .int v7, .int v9] [.int 0] (md wc f A) _
            refine pz_if_eq (off := 32) (t := 95) (by decide +kernel) (by decide) rfl kz_0 (fun h24 => ?_) (fun h24 => by omega)
            refine pe_iconstv (n := 0) (v := 0) (by decide +kernel) (by decide +kernel) ?_
            exact pe_iret (by decide +kernel) rfl rfl ⟨f, A, 0, rfl, hI, (fun k n14 n15 => rfl), (fun k n152 n153 => rfl), (by omega), Or.inl ⟨rfl, trivial⟩⟩
          · skip
            refine pe_iconstv (n := 1) (v := 1) (by decide +kernel) (by decide +kernel) ?_
            refine pe_goto (off := 4) (t := 15) (by decide +kernel) (by decide) rfl ?_
            refine pe_iret (by decide +kernel) rfl rfl ⟨rfl, rfl, ?_⟩
            show pmE pg X pg_tyl pg_cl (d + 3) 221 13 [.ref 147, .int x1, .int v7] [.int 1] (md wc f A) _
            refine pe_iret (by decide +kernel) rfl rfl ⟨rfl, rfl, ?_⟩
            show pmE pg X pg_tyl pg_cl (d + 4) 230 63 [.ref 147, .int x1, .int x2, .int v1, .int v3, .int v7, .int v9] [.int 1] (md wc f A) _
            refine pz_if_eq (off := 32) (t := 95) (by decide +kernel) (by decide) rfl kz_1 (fun h25 => by omega) (fun h25 => ?_)
            refine pe_iload_n (j := 3) (by decide +kernel) rfl ?_
            refine pz_if_ne (off := 15) (t := 82) (by decide +kernel) (by decide) rfl rfl (fun h26 => by omega) (fun h26 => ?_)
            refine pe_aload_n (j := 0) (by decide +kernel) rfl ?_
            refine pe_iload_n (j := 1) (by decide +kernel) rfl ?_
            refine pe_iload (j := 4) (by decide +kernel) rfl ?_
            refine pe_iload (j := 5) (by decide +kernel) rfl ?_
            refine pz_callV (j := 199) (mj := 231) (by decide +kernel) (cll_V (args := [.int v7, .int v3, .int x1]) (n := 3) (by decide +kernel) rfl rfl (md_o hc) (by decide +kernel) (Nat.le_of_ble_eq_true rfl) (Nat.le_of_ble_eq_true rfl)) (MM_231 hc hI (by omega) (by omega) (by omega)) (fun q27a q27b q27c q27d hqq27 => ?_)
            obtain ⟨rq27, eq27, kq27⟩ := hqq27
            cases eq27
            refine ⟨rfl, rfl, ?_⟩
            show pmE pg X pg_tyl pg_cl (d + 4) 230 79 [.ref 147, .int x1, .int x2, .int v1, .int v3, .int v7, .int v9] [.int rq27] (md wc f A) _
            refine pe_goto (off := 11) (t := 90) (by decide +kernel) (by decide) rfl ?_
            refine pe_iload (j := 6) (by decide +kernel) rfl ?_
            have lw29 := zi_lo rq27
            have uw29 := zi_hi rq27
            have lw30 := zi_lo v9
            have uw30 := zi_hi v9
            refine pz_icmp_ge (off := 5) (t := 97) (by decide +kernel) (by decide) rfl rfl rfl (fun h28 => ?_) (fun h28 => ?_)
            · skip
              refine pe_aload_n (j := 0) (by decide +kernel) rfl ?_
              refine pe_get (j := 23) (ci := 12) (n := 12) (by decide +kernel) (by decide +kernel) (md_o hc) rfl ?_
              refine pe_bipushv (n := 9) (v := 9) (by decide +kernel) (by decide +kernel) ?_
              refine pe_iload (j := 4) (by decide +kernel) rfl ?_
              refine pz_mul (by decide +kernel) kz_9 rfl (by omega) (by omega) (fun z31 hz31 => ?_)
              refine pe_iload (j := 5) (by decide +kernel) rfl ?_
              refine pz_add (by decide +kernel) hz31 rfl (by omega) (by omega) (fun z32 hz32 => ?_)
              clear hz31
              refine pe_dup2 (by decide +kernel) ⟨rfl, rfl⟩ ?_
              refine mz_ld152 (by decide +kernel) hc hI hz32 (by omega) (by omega) (fun v33 ev33 => ?_)
              refine pe_iload_n (j := 3) (by decide +kernel) rfl ?_
              refine pz_if_ne (off := 8) (t := 120) (by decide +kernel) (by decide) rfl rfl (fun h34 => by omega) (fun h34 => ?_)
              refine pe_iload (j := 6) (by decide +kernel) rfl ?_
              refine pe_goto (off := 6) (t := 123) (by decide +kernel) (by decide) rfl ?_
              refine pw_add (by decide +kernel) (fun z35 => ?_)
              refine mz_st152 (by decide +kernel) hc hI hz32 (by omega) (by omega) (fun A36 eA36 hIA36 => ?_)
              refine pe_iconstv (n := 1) (v := 1) (by decide +kernel) (by decide +kernel) ?_
              exact pe_iret (by decide +kernel) rfl rfl ⟨f, A36, 1, rfl, hIA36, (fun k n14 n15 => rfl), (fun k n152 n153 => upa_fr eA36 n152), (by omega), Or.inr (⟨rfl, trivial⟩)⟩
            · skip
              refine pe_iconstv (n := 0) (v := 0) (by decide +kernel) (by decide +kernel) ?_
              exact pe_iret (by decide +kernel) rfl rfl ⟨f, A, 0, rfl, hI, (fun k n14 n15 => rfl), (fun k n152 n153 => rfl), (by omega), Or.inl ⟨rfl, trivial⟩⟩
  · skip
    refine pe_iload_n (j := 3) (by decide +kernel) rfl ?_
    refine pe_iconstv (n := 1) (v := 1) (by decide +kernel) (by decide +kernel) ?_
    refine pz_icmp_ne (off := 104) (t := 127) (by decide +kernel) (by decide) rfl rfl kz_1 (fun h37 => ?_) (fun h37 => ?_)
    · skip
      refine pe_iload_n (j := 3) (by decide +kernel) rfl ?_
      refine pe_iconstv (n := 2) (v := 2) (by decide +kernel) (by decide +kernel) ?_
      refine pz_icmp_ne (off := 10) (t := 139) (by decide +kernel) (by decide) rfl rfl kz_2 (fun h38 => ?_) (fun h38 => ?_)
      · skip
        refine pe_iload_n (j := 3) (by decide +kernel) rfl ?_
        refine pe_iconstv (n := 3) (v := 3) (by decide +kernel) (by decide +kernel) ?_
        refine pz_icmp_ne (off := 32) (t := 173) (by decide +kernel) (by decide) rfl rfl kz_3 (fun h39 => ?_) (fun h39 => ?_)
        · skip
          refine pe_iload_n (j := 3) (by decide +kernel) rfl ?_
          refine pe_iconstv (n := 4) (v := 4) (by decide +kernel) (by decide +kernel) ?_
          refine pz_icmp_ne (off := 24) (t := 199) (by decide +kernel) (by decide) rfl rfl kz_4 (fun h40 => ?_) (fun h40 => ?_)
          · skip
            refine pe_aload_n (j := 0) (by decide +kernel) rfl ?_
            refine pz_callV (j := 208) (mj := 240) (by decide +kernel) (cll_V (args := []) (n := 0) (by decide +kernel) rfl rfl (md_o hc) (by decide +kernel) (Nat.le_of_ble_eq_true rfl) (Nat.le_of_ble_eq_true rfl)) (MM_240 hc hI) (fun q41a q41b q41c q41d hqq41 => ?_)
            obtain ⟨f42, A43, eq41, hIq41, hGq41, hFq41, kq41⟩ := hqq41
            cases eq41
            refine ⟨rfl, rfl, ?_⟩
            show pmE pg X pg_tyl pg_cl (d + 4) 230 203 [.ref 147, .int x1, .int x2, .int v1, .int v3, pm_dead, pm_dead] [] (md wc f42 A43) _
            refine pe_iconstv (n := 1) (v := 1) (by decide +kernel) (by decide +kernel) ?_
            have hx44 : (f42 14).toInt = (f 14).toInt := (congrArg Int32.toInt (show f42 14 = (f 14) from (hGq41 14 (by decide)))).trans rfl
            exact pe_iret (by decide +kernel) rfl rfl ⟨f42, A43, 1, rfl, hIq41, (fun k n14 n15 => (hGq41 k n15)), (fun k n152 n153 => (hFq41 k n152 n153)), (by omega), Or.inr (⟨rfl, trivial⟩)⟩
          · skip
            refine pe_aload_n (j := 0) (by decide +kernel) rfl ?_
            refine pe_iload_n (j := 1) (by decide +kernel) rfl ?_
            refine pe_iload (j := 4) (by decide +kernel) rfl ?_
            refine pi_V (j := 166) (mj := 221) (by decide +kernel) (cll_V (args := [.int v3, .int x1]) (n := 2) (by decide +kernel) rfl rfl (md_o hc) (by decide +kernel) (Nat.le_of_ble_eq_true rfl) (Nat.le_of_ble_eq_true rfl)) ?_
            show pmE pg X pg_tyl pg_cl (d + 3) 221 0 [.ref 147, .int x1, .int v3] [] (md wc f A) _
            refine pe_iload_n (j := 2) (by decide +kernel) rfl ?_
            refine pe_iconstv (n := 0) (v := 0) (by decide +kernel) (by decide +kernel) ?_
            refine pe_aload_n (j := 0) (by decide +kernel) rfl ?_
            refine pe_get (j := 7) (ci := 12) (n := 0) (by decide +kernel) (by decide +kernel) (md_o hc) rfl ?_
            refine pe_iload_n (j := 1) (by decide +kernel) rfl ?_
            refine mz_ld148 (by decide +kernel) hc hI rfl (by omega) (by omega) (fun v45 ev45 pv45 => ?_)
            have rv45 : 0 ≤ v45.toInt ∧ v45.toInt ≤ 9 := MT_people pv45 (by omega)
            clear pv45
            refine pe_iconstv (n := 1) (v := 1) (by decide +kernel) (by decide +kernel) ?_
            refine pz_sub (by decide +kernel) rfl kz_1 (by omega) (by omega) (fun z46 hz46 => ?_)
            refine pi_S (j := 119) (mj := 199) (by decide +kernel) (by decide +kernel) rfl ?_
            show pmE pg X pg_tyl pg_cl (d + 2) 199 0 [.int v3, .int 0, .int z46] [] (md wc f A) _
            refine pe_iload_n (j := 0) (by decide +kernel) rfl ?_
            refine pe_iload_n (j := 1) (by decide +kernel) rfl ?_
            have lw48 := zi_lo v3
            have uw48 := zi_hi v3
            refine pz_icmp_lt (off := 12) (t := 14) (by decide +kernel) (by decide) rfl rfl kz_0 (fun h47 => ?_) (fun h47 => ?_)
            · skip
              refine pe_iconstv (n := 0) (v := 0) (by decide +kernel) (by decide +kernel) ?_
              refine pe_iret (by decide +kernel) rfl rfl ⟨rfl, rfl, ?_⟩
              show pmE pg X pg_tyl pg_cl (d + 3) 221 13 [.ref 147, .int x1, .int v3] [.int 0] (md wc f A) _
              refine pe_iret (by decide +kernel) rfl rfl ⟨rfl, rfl, ?_⟩
              show pmE pg X pg_tyl pg_cl (d + 4) 230 185 [.ref 147, .int x1, .int x2, .int v1, .int v3, pm_dead, pm_dead] [.int 0] (md wc f A) _
              refine pz_if_ne (off := 5) (t := 190) (by decide +kernel) (by decide) rfl kz_0 (fun h49 => by omega) (fun h49 => ?_)
              refine pe_iconstv (n := 0) (v := 0) (by decide +kernel) (by decide +kernel) ?_
              exact pe_iret (by decide +kernel) rfl rfl ⟨f, A, 0, rfl, hI, (fun k n14 n15 => rfl), (fun k n152 n153 => rfl), (by omega), Or.inl ⟨rfl, trivial⟩⟩
            · skip
              refine pe_iload_n (j := 0) (by decide +kernel) rfl ?_
              refine pe_iload_n (j := 2) (by decide +kernel) rfl ?_
              refine pz_icmp_gt (off := 7) (t := 14) (by decide +kernel) (by decide) rfl rfl hz46 (fun h50 => ?_) (fun h50 => ?_)
              · skip
                refine pe_iconstv (n := 0) (v := 0) (by decide +kernel) (by decide +kernel) ?_
                refine pe_iret (by decide +kernel) rfl rfl ⟨rfl, rfl, ?_⟩
                show pmE pg X pg_tyl pg_cl (d + 3) 221 13 [.ref 147, .int x1, .int v3] [.int 0] (md wc f A) _
                refine pe_iret (by decide +kernel) rfl rfl ⟨rfl, rfl, ?_⟩
                show pmE pg X pg_tyl pg_cl (d + 4) 230 185 [.ref 147, .int x1, .int x2, .int v1, .int v3, pm_dead, pm_dead] [.int 0] (md wc f A) _
                refine pz_if_ne (off := 5) (t := 190) (by decide +kernel) (by decide) rfl kz_0 (fun h51 => by omega) (fun h51 => ?_)
                refine pe_iconstv (n := 0) (v := 0) (by decide +kernel) (by decide +kernel) ?_
                exact pe_iret (by decide +kernel) rfl rfl ⟨f, A, 0, rfl, hI, (fun k n14 n15 => rfl), (fun k n152 n153 => rfl), (by omega), Or.inl ⟨rfl, trivial⟩⟩
              · skip
                refine pe_iconstv (n := 1) (v := 1) (by decide +kernel) (by decide +kernel) ?_
                refine pe_goto (off := 4) (t := 15) (by decide +kernel) (by decide) rfl ?_
                refine pe_iret (by decide +kernel) rfl rfl ⟨rfl, rfl, ?_⟩
                show pmE pg X pg_tyl pg_cl (d + 3) 221 13 [.ref 147, .int x1, .int v3] [.int 1] (md wc f A) _
                refine pe_iret (by decide +kernel) rfl rfl ⟨rfl, rfl, ?_⟩
                show pmE pg X pg_tyl pg_cl (d + 4) 230 185 [.ref 147, .int x1, .int x2, .int v1, .int v3, pm_dead, pm_dead] [.int 1] (md wc f A) _
                refine pz_if_ne (off := 5) (t := 190) (by decide +kernel) (by decide) rfl kz_1 (fun h52 => ?_) (fun h52 => by omega)
                refine pe_aload_n (j := 0) (by decide +kernel) rfl ?_
                refine pe_iload (j := 4) (by decide +kernel) rfl ?_
                refine pz_callV (j := 205) (mj := 238) (by decide +kernel) (cll_V (args := [.int v3]) (n := 1) (by decide +kernel) rfl rfl (md_o hc) (by decide +kernel) (Nat.le_of_ble_eq_true rfl) (Nat.le_of_ble_eq_true rfl)) (MM_238 hc hI (by omega)) (fun q53a q53b q53c q53d hqq53 => ?_)
                obtain ⟨A54, eq53, hIq53, hFq53, kq53⟩ := hqq53
                cases eq53
                refine ⟨rfl, rfl, ?_⟩
                show pmE pg X pg_tyl pg_cl (d + 4) 230 196 [.ref 147, .int x1, .int x2, .int v1, .int v3, pm_dead, pm_dead] [] (md wc f A54) _
                refine pe_goto (off := 7) (t := 203) (by decide +kernel) (by decide) rfl ?_
                refine pe_iconstv (n := 1) (v := 1) (by decide +kernel) (by decide +kernel) ?_
                exact pe_iret (by decide +kernel) rfl rfl ⟨f, A54, 1, rfl, hIq53, (fun k n14 n15 => rfl), (fun k n152 n153 => (hFq53 k n152 n153)), (by omega), Or.inr (⟨rfl, trivial⟩)⟩
        · skip
          have hst := mi_row hI (i := x2.toInt) ha0 ev1 ev3 (by omega)
          refine pe_iload (j := 4) (by decide +kernel) rfl ?_
          refine pe_aload_n (j := 0) (by decide +kernel) rfl ?_
          refine pe_get (j := 175) (ci := 12) (n := 14) (by decide +kernel) (by decide +kernel) (md_o hc) rfl ?_
          have lw56 := zi_lo v3
          have uw56 := zi_hi v3
          refine pz_icmp_ge (off := 12) (t := 162) (by decide +kernel) (by decide) rfl rfl rfl (fun h55 => ?_) (fun h55 => ?_)
          · skip
            refine pe_iconstv (n := 0) (v := 0) (by decide +kernel) (by decide +kernel) ?_
            exact pe_iret (by decide +kernel) rfl rfl ⟨f, A, 0, rfl, hI, (fun k n14 n15 => rfl), (fun k n152 n153 => rfl), (by omega), Or.inl ⟨rfl, trivial⟩⟩
          · skip
            refine pe_aload_n (j := 0) (by decide +kernel) rfl ?_
            refine pe_iload (j := 4) (by decide +kernel) rfl ?_
            refine pi_V (j := 190) (mj := 236) (by decide +kernel) (cll_V (args := [.int v3]) (n := 1) (by decide +kernel) rfl rfl (md_o hc) (by decide +kernel) (Nat.le_of_ble_eq_true rfl) (Nat.le_of_ble_eq_true rfl)) ?_
            show pmE pg X pg_tyl pg_cl (d + 3) 236 0 [.ref 147, .int v3] [] (md wc f A) _
            refine pe_aload_n (j := 0) (by decide +kernel) rfl ?_
            refine pe_get (j := 26) (ci := 12) (n := 13) (by decide +kernel) (by decide +kernel) (md_o hc) rfl ?_
            refine pe_bipushv (n := 10) (v := 10) (by decide +kernel) (by decide +kernel) ?_
            refine pe_iload_n (j := 1) (by decide +kernel) rfl ?_
            refine pz_mul (by decide +kernel) kz_10 rfl (by omega) (by omega) (fun z57 hz57 => ?_)
            refine pe_iconstv (n := 3) (v := 3) (by decide +kernel) (by decide +kernel) ?_
            refine pz_add (by decide +kernel) hz57 kz_3 (by omega) (by omega) (fun z58 hz58 => ?_)
            clear hz57
            refine mz_ld153 (by decide +kernel) hc hI hz58 (by omega) (by omega) (fun v59 ev59 pv59 => ?_)
            clear hz58
            refine pe_iconstv (n := 1) (v := 1) (by decide +kernel) (by decide +kernel) ?_
            have lw61 := zi_lo v59
            have uw61 := zi_hi v59
            refine pz_icmp_ne (off := 7) (t := 19) (by decide +kernel) (by decide) rfl rfl kz_1 (fun h60 => ?_) (fun h60 => ?_)
            · skip
              refine pe_iconstv (n := 0) (v := 0) (by decide +kernel) (by decide +kernel) ?_
              refine pe_iret (by decide +kernel) rfl rfl ⟨rfl, rfl, ?_⟩
              show pmE pg X pg_tyl pg_cl (d + 4) 230 159 [.ref 147, .int x1, .int x2, .int v1, .int v3, pm_dead, pm_dead] [.int 0] (md wc f A) _
              refine pz_if_ne (off := 5) (t := 164) (by decide +kernel) (by decide) rfl kz_0 (fun h62 => by omega) (fun h62 => ?_)
              refine pe_iconstv (n := 0) (v := 0) (by decide +kernel) (by decide +kernel) ?_
              exact pe_iret (by decide +kernel) rfl rfl ⟨f, A, 0, rfl, hI, (fun k n14 n15 => rfl), (fun k n152 n153 => rfl), (by omega), Or.inl ⟨rfl, trivial⟩⟩
            · skip
              refine pe_iconstv (n := 1) (v := 1) (by decide +kernel) (by decide +kernel) ?_
              refine pe_goto (off := 4) (t := 20) (by decide +kernel) (by decide) rfl ?_
              refine pe_iret (by decide +kernel) rfl rfl ⟨rfl, rfl, ?_⟩
              show pmE pg X pg_tyl pg_cl (d + 4) 230 159 [.ref 147, .int x1, .int x2, .int v1, .int v3, pm_dead, pm_dead] [.int 1] (md wc f A) _
              refine pz_if_ne (off := 5) (t := 164) (by decide +kernel) (by decide) rfl kz_1 (fun h63 => ?_) (fun h63 => by omega)
              refine pe_aload_n (j := 0) (by decide +kernel) rfl ?_
              refine pe_iload (j := 4) (by decide +kernel) rfl ?_
              refine pz_callV (j := 196) (mj := 237) (by decide +kernel) (cll_V (args := [.int v3]) (n := 1) (by decide +kernel) rfl rfl (md_o hc) (by decide +kernel) (Nat.le_of_ble_eq_true rfl) (Nat.le_of_ble_eq_true rfl)) (MM_237 hc hI (by omega)) (fun q64a q64b q64c q64d hqq64 => ?_)
              obtain ⟨A65, eq64, hIq64, hFq64, kq64⟩ := hqq64
              cases eq64
              refine ⟨rfl, rfl, ?_⟩
              show pmE pg X pg_tyl pg_cl (d + 4) 230 170 [.ref 147, .int x1, .int x2, .int v1, .int v3, pm_dead, pm_dead] [] (md wc f A65) _
              refine pe_goto (off := 33) (t := 203) (by decide +kernel) (by decide) rfl ?_
              refine pe_iconstv (n := 1) (v := 1) (by decide +kernel) (by decide +kernel) ?_
              exact pe_iret (by decide +kernel) rfl rfl ⟨f, A65, 1, rfl, hIq64, (fun k n14 n15 => rfl), (fun k n152 n153 => (hFq64 k n152 n153)), (by omega), Or.inr (⟨rfl, trivial⟩)⟩
      · skip
        refine pe_aload_n (j := 0) (by decide +kernel) rfl ?_
        refine pe_iload_n (j := 1) (by decide +kernel) rfl ?_
        refine pe_iload_n (j := 2) (by decide +kernel) rfl ?_
        refine pz_callV (j := 202) (mj := 233) (by decide +kernel) (cll_V (args := [.int x2, .int x1]) (n := 2) (by decide +kernel) rfl rfl (md_o hc) (by decide +kernel) (Nat.le_of_ble_eq_true rfl) (Nat.le_of_ble_eq_true rfl)) (MM_233 hc hI (by omega) (by omega) (by omega)) (fun q66a q66b q66c q66d hqq66 => ?_)
        obtain ⟨f67, A68, rq66, eq66, hIq66, hGq66, hFq66, hX0q66, kq66⟩ := hqq66
        cases eq66
        refine ⟨rfl, rfl, ?_⟩
        have hr_14_f67 := hIq66.1 14
        simp only [MF] at hr_14_f67
        rcases kq66 with kq66 | kq66
        · skip
          obtain ⟨erq66, kq66⟩ := kq66
          subst erq66
          show pmE pg X pg_tyl pg_cl (d + 4) 230 138 [.ref 147, .int x1, .int x2, .int v1, .int v3, pm_dead, pm_dead] [.int 1] (md wc f67 A68) _
          exact pe_iret (by decide +kernel) rfl rfl ⟨f67, A68, 1, rfl, hIq66, (fun k n14 n15 => (hGq66 k n14)), (fun k n152 n153 => (hFq66 k n152 n153)), (by omega), Or.inr (⟨rfl, trivial⟩)⟩
        · skip
          obtain ⟨erq66, kq66⟩ := kq66
          subst erq66
          show pmE pg X pg_tyl pg_cl (d + 4) 230 138 [.ref 147, .int x1, .int x2, .int v1, .int v3, pm_dead, pm_dead] [.int 0] (md wc f67 A68) _
          exact pe_iret (by decide +kernel) rfl rfl ⟨f67, A68, 0, rfl, hIq66, (fun k n14 n15 => (hGq66 k n14)), (fun k n152 n153 => (hFq66 k n152 n153)), (by omega), Or.inl ⟨rfl, trivial⟩⟩
    · skip
      refine pe_aload_n (j := 0) (by decide +kernel) rfl ?_
      refine pe_get (j := 7) (ci := 12) (n := 0) (by decide +kernel) (by decide +kernel) (md_o hc) rfl ?_
      refine pe_iload_n (j := 2) (by decide +kernel) rfl ?_
      refine pe_iconstv (n := 2) (v := 2) (by decide +kernel) (by decide +kernel) ?_
      refine pz_add (by decide +kernel) rfl kz_2 (by omega) (by omega) (fun z69 hz69 => ?_)
      refine mz_ld148 (by decide +kernel) hc hI hz69 (by omega) (by omega) (fun v70 ev70 pv70 => ?_)
      clear pv70
      clear hz69
      refine pe_istore (j := 5) (ls' := [.ref 147, .int x1, .int x2, .int v1, .int v3, .int v70, pm_dead]) (by decide +kernel) (Nat.le_of_ble_eq_true rfl) rfl ?_
      refine pe_aload_n (j := 0) (by decide +kernel) rfl ?_
      refine pe_get (j := 7) (ci := 12) (n := 0) (by decide +kernel) (by decide +kernel) (md_o hc) rfl ?_
      refine pe_iload_n (j := 2) (by decide +kernel) rfl ?_
      refine pe_iconstv (n := 3) (v := 3) (by decide +kernel) (by decide +kernel) ?_
      refine pz_add (by decide +kernel) rfl kz_3 (by omega) (by omega) (fun z71 hz71 => ?_)
      refine mz_ld148 (by decide +kernel) hc hI hz71 (by omega) (by omega) (fun v72 ev72 pv72 => ?_)
      clear pv72
      clear hz71
      refine pe_istore (j := 6) (ls' := [.ref 147, .int x1, .int x2, .int v1, .int v3, .int v70, .int v72]) (by decide +kernel) (Nat.le_of_ble_eq_true rfl) rfl ?_
      refine pe_aload_n (j := 0) (by decide +kernel) rfl ?_
      refine pe_iload_n (j := 1) (by decide +kernel) rfl ?_
      refine pe_iload (j := 4) (by decide +kernel) rfl ?_
      refine pi_V (j := 166) (mj := 221) (by decide +kernel) (cll_V (args := [.int v3, .int x1]) (n := 2) (by decide +kernel) rfl rfl (md_o hc) (by decide +kernel) (Nat.le_of_ble_eq_true rfl) (Nat.le_of_ble_eq_true rfl)) ?_
      show pmE pg X pg_tyl pg_cl (d + 3) 221 0 [.ref 147, .int x1, .int v3] [] (md wc f A) _
      refine pe_iload_n (j := 2) (by decide +kernel) rfl ?_
      refine pe_iconstv (n := 0) (v := 0) (by decide +kernel) (by decide +kernel) ?_
      refine pe_aload_n (j := 0) (by decide +kernel) rfl ?_
      refine pe_get (j := 7) (ci := 12) (n := 0) (by decide +kernel) (by decide +kernel) (md_o hc) rfl ?_
      refine pe_iload_n (j := 1) (by decide +kernel) rfl ?_
      refine mz_ld148 (by decide +kernel) hc hI rfl (by omega) (by omega) (fun v73 ev73 pv73 => ?_)
      have rv73 : 0 ≤ v73.toInt ∧ v73.toInt ≤ 9 := MT_people pv73 (by omega)
      clear pv73
      refine pe_iconstv (n := 1) (v := 1) (by decide +kernel) (by decide +kernel) ?_
      refine pz_sub (by decide +kernel) rfl kz_1 (by omega) (by omega) (fun z74 hz74 => ?_)
      refine pi_S (j := 119) (mj := 199) (by decide +kernel) (by decide +kernel) rfl ?_
      show pmE pg X pg_tyl pg_cl (d + 2) 199 0 [.int v3, .int 0, .int z74] [] (md wc f A) _
      refine pe_iload_n (j := 0) (by decide +kernel) rfl ?_
      refine pe_iload_n (j := 1) (by decide +kernel) rfl ?_
      have lw76 := zi_lo v3
      have uw76 := zi_hi v3
      refine pz_icmp_lt (off := 12) (t := 14) (by decide +kernel) (by decide) rfl rfl kz_0 (fun h75 => ?_) (fun h75 => ?_)
      · skip
        refine pe_iconstv (n := 0) (v := 0) (by decide +kernel) (by decide +kernel) ?_
        refine pe_iret (by decide +kernel) rfl rfl ⟨rfl, rfl, ?_⟩
        show pmE pg X pg_tyl pg_cl (d + 3) 221 13 [.ref 147, .int x1, .int v3] [.int 0] (md wc f A) _
        refine pe_iret (by decide +kernel) rfl rfl ⟨rfl, rfl, ?_⟩
        show pmE pg X pg_tyl pg_cl (d + 4) 230 53 [.ref 147, .int x1, .int x2, .int v1, .int v3, .int v70, .int v72] [.int 0] (md wc f A) _
        refine pz_if_eq (off := 42) (t := 95) (by decide +kernel) (by decide) rfl kz_0 (fun h77 => ?_) (fun h77 => by omega)
        refine pe_iconstv (n := 0) (v := 0) (by decide +kernel) (by decide +kernel) ?_
        exact pe_iret (by decide +kernel) rfl rfl ⟨f, A, 0, rfl, hI, (fun k n14 n15 => rfl), (fun k n152 n153 => rfl), (by omega), Or.inl ⟨rfl, trivial⟩⟩
      · skip
        refine pe_iload_n (j := 0) (by decide +kernel) rfl ?_
        refine pe_iload_n (j := 2) (by decide +kernel) rfl ?_
        refine pz_icmp_gt (off := 7) (t := 14) (by decide +kernel) (by decide) rfl rfl hz74 (fun h78 => ?_) (fun h78 => ?_)
        · skip
          refine pe_iconstv (n := 0) (v := 0) (by decide +kernel) (by decide +kernel) ?_
          refine pe_iret (by decide +kernel) rfl rfl ⟨rfl, rfl, ?_⟩
          show pmE pg X pg_tyl pg_cl (d + 3) 221 13 [.ref 147, .int x1, .int v3] [.int 0] (md wc f A) _
          refine pe_iret (by decide +kernel) rfl rfl ⟨rfl, rfl, ?_⟩
          show pmE pg X pg_tyl pg_cl (d + 4) 230 53 [.ref 147, .int x1, .int x2, .int v1, .int v3, .int v70, .int v72] [.int 0] (md wc f A) _
          refine pz_if_eq (off := 42) (t := 95) (by decide +kernel) (by decide) rfl kz_0 (fun h79 => ?_) (fun h79 => by omega)
          refine pe_iconstv (n := 0) (v := 0) (by decide +kernel) (by decide +kernel) ?_
          exact pe_iret (by decide +kernel) rfl rfl ⟨f, A, 0, rfl, hI, (fun k n14 n15 => rfl), (fun k n152 n153 => rfl), (by omega), Or.inl ⟨rfl, trivial⟩⟩
        · skip
          refine pe_iconstv (n := 1) (v := 1) (by decide +kernel) (by decide +kernel) ?_
          refine pe_goto (off := 4) (t := 15) (by decide +kernel) (by decide) rfl ?_
          refine pe_iret (by decide +kernel) rfl rfl ⟨rfl, rfl, ?_⟩
          show pmE pg X pg_tyl pg_cl (d + 3) 221 13 [.ref 147, .int x1, .int v3] [.int 1] (md wc f A) _
          refine pe_iret (by decide +kernel) rfl rfl ⟨rfl, rfl, ?_⟩
          show pmE pg X pg_tyl pg_cl (d + 4) 230 53 [.ref 147, .int x1, .int x2, .int v1, .int v3, .int v70, .int v72] [.int 1] (md wc f A) _
          refine pz_if_eq (off := 42) (t := 95) (by decide +kernel) (by decide) rfl kz_1 (fun h80 => by omega) (fun h80 => ?_)
          refine pe_aload_n (j := 0) (by decide +kernel) rfl ?_
          refine pe_iload_n (j := 1) (by decide +kernel) rfl ?_
          refine pe_iload (j := 5) (by decide +kernel) rfl ?_
          refine pi_V (j := 166) (mj := 221) (by decide +kernel) (cll_V (args := [.int v70, .int x1]) (n := 2) (by decide +kernel) rfl rfl (md_o hc) (by decide +kernel) (Nat.le_of_ble_eq_true rfl) (Nat.le_of_ble_eq_true rfl)) ?_
          show pmE pg X pg_tyl pg_cl (d + 3) 221 0 [.ref 147, .int x1, .int v70] [] (md wc f A) _
          refine pe_iload_n (j := 2) (by decide +kernel) rfl ?_
          refine pe_iconstv (n := 0) (v := 0) (by decide +kernel) (by decide +kernel) ?_
          refine pe_aload_n (j := 0) (by decide +kernel) rfl ?_
          refine pe_get (j := 7) (ci := 12) (n := 0) (by decide +kernel) (by decide +kernel) (md_o hc) rfl ?_
          refine pe_iload_n (j := 1) (by decide +kernel) rfl ?_
          refine mz_ld148 (by decide +kernel) hc hI rfl (by omega) (by omega) (fun v81 ev81 pv81 => ?_)
          rw [ev81.trans ev73.symm]
          clear pv81 ev81 v81
          refine pe_iconstv (n := 1) (v := 1) (by decide +kernel) (by decide +kernel) ?_
          refine pz_sub (by decide +kernel) rfl kz_1 (by omega) (by omega) (fun z82 hz82 => ?_)
          refine pi_S (j := 119) (mj := 199) (by decide +kernel) (by decide +kernel) rfl ?_
          show pmE pg X pg_tyl pg_cl (d + 2) 199 0 [.int v70, .int 0, .int z82] [] (md wc f A) _
          refine pe_iload_n (j := 0) (by decide +kernel) rfl ?_
          refine pe_iload_n (j := 1) (by decide +kernel) rfl ?_
          have lw84 := zi_lo v70
          have uw84 := zi_hi v70
          refine pz_icmp_lt (off := 12) (t := 14) (by decide +kernel) (by decide) rfl rfl kz_0 (fun h83 => ?_) (fun h83 => ?_)
          · skip
            refine pe_iconstv (n := 0) (v := 0) (by decide +kernel) (by decide +kernel) ?_
            refine pe_iret (by decide +kernel) rfl rfl ⟨rfl, rfl, ?_⟩
            show pmE pg X pg_tyl pg_cl (d + 3) 221 13 [.ref 147, .int x1, .int v70] [.int 0] (md wc f A) _
            refine pe_iret (by decide +kernel) rfl rfl ⟨rfl, rfl, ?_⟩
            show pmE pg X pg_tyl pg_cl (d + 4) 230 63 [.ref 147, .int x1, .int x2, .int v1, .int v3, .int v70, .int v72] [.int 0] (md wc f A) _
            refine pz_if_eq (off := 32) (t := 95) (by decide +kernel) (by decide) rfl kz_0 (fun h85 => ?_) (fun h85 => by omega)
            refine pe_iconstv (n := 0) (v := 0) (by decide +kernel) (by decide +kernel) ?_
            exact pe_iret (by decide +kernel) rfl rfl ⟨f, A, 0, rfl, hI, (fun k n14 n15 => rfl), (fun k n152 n153 => rfl), (by omega), Or.inl ⟨rfl, trivial⟩⟩
          · skip
            refine pe_iload_n (j := 0) (by decide +kernel) rfl ?_
            refine pe_iload_n (j := 2) (by decide +kernel) rfl ?_
            refine pz_icmp_gt (off := 7) (t := 14) (by decide +kernel) (by decide) rfl rfl hz82 (fun h86 => ?_) (fun h86 => ?_)
            · skip
              refine pe_iconstv (n := 0) (v := 0) (by decide +kernel) (by decide +kernel) ?_
              refine pe_iret (by decide +kernel) rfl rfl ⟨rfl, rfl, ?_⟩
              show pmE pg X pg_tyl pg_cl (d + 3) 221 13 [.ref 147, .int x1, .int v70] [.int 0] (md wc f A) _
              refine pe_iret (by decide +kernel) rfl rfl ⟨rfl, rfl, ?_⟩
              show pmE pg X pg_tyl pg_cl (d + 4) 230 63 [.ref 147, .int x1, .int x2, .int v1, .int v3, .int v70, .int v72] [.int 0] (md wc f A) _
              refine pz_if_eq (off := 32) (t := 95) (by decide +kernel) (by decide) rfl kz_0 (fun h87 => ?_) (fun h87 => by omega)
              refine pe_iconstv (n := 0) (v := 0) (by decide +kernel) (by decide +kernel) ?_
              exact pe_iret (by decide +kernel) rfl rfl ⟨f, A, 0, rfl, hI, (fun k n14 n15 => rfl), (fun k n152 n153 => rfl), (by omega), Or.inl ⟨rfl, trivial⟩⟩
            · skip
              refine pe_iconstv (n := 1) (v := 1) (by decide +kernel) (by decide +kernel) ?_
              refine pe_goto (off := 4) (t := 15) (by decide +kernel) (by decide) rfl ?_
              refine pe_iret (by decide +kernel) rfl rfl ⟨rfl, rfl, ?_⟩
              show pmE pg X pg_tyl pg_cl (d + 3) 221 13 [.ref 147, .int x1, .int v70] [.int 1] (md wc f A) _
              refine pe_iret (by decide +kernel) rfl rfl ⟨rfl, rfl, ?_⟩
              show pmE pg X pg_tyl pg_cl (d + 4) 230 63 [.ref 147, .int x1, .int x2, .int v1, .int v3, .int v70, .int v72] [.int 1] (md wc f A) _
              refine pz_if_eq (off := 32) (t := 95) (by decide +kernel) (by decide) rfl kz_1 (fun h88 => by omega) (fun h88 => ?_)
              refine pe_iload_n (j := 3) (by decide +kernel) rfl ?_
              refine pz_if_ne (off := 15) (t := 82) (by decide +kernel) (by decide) rfl rfl (fun h89 => ?_) (fun h89 => by omega)
              refine pe_aload_n (j := 0) (by decide +kernel) rfl ?_
              refine pe_iload (j := 4) (by decide +kernel) rfl ?_
              refine pe_iload (j := 5) (by decide +kernel) rfl ?_
              refine pi_V (j := 181) (mj := 232) (by decide +kernel) (cll_V (args := [.int v70, .int v3]) (n := 2) (by decide +kernel) rfl rfl (md_o hc) (by decide +kernel) (Nat.le_of_ble_eq_true rfl) (Nat.le_of_ble_eq_true rfl)) ?_
              show pmE pg X pg_tyl pg_cl (d + 3) 232 0 [.ref 147, .int v3, .int v70] [] (md wc f A) _
              refine pe_aload_n (j := 0) (by decide +kernel) rfl ?_
              refine pe_get (j := 23) (ci := 12) (n := 12) (by decide +kernel) (by decide +kernel) (md_o hc) rfl ?_
              refine pe_bipushv (n := 9) (v := 9) (by decide +kernel) (by decide +kernel) ?_
              refine pe_iload_n (j := 1) (by decide +kernel) rfl ?_
              refine pz_mul (by decide +kernel) kz_9 rfl (by omega) (by omega) (fun z90 hz90 => ?_)
              refine pe_iload_n (j := 2) (by decide +kernel) rfl ?_
              refine pz_add (by decide +kernel) hz90 rfl (by omega) (by omega) (fun z91 hz91 => ?_)
              clear hz90
              refine mz_ld152 (by decide +kernel) hc hI hz91 (by omega) (by omega) (fun v92 ev92 => ?_)
              clear hz91
              refine pe_iret (by decide +kernel) rfl rfl ⟨rfl, rfl, ?_⟩
              show pmE pg X pg_tyl pg_cl (d + 4) 230 90 [.ref 147, .int x1, .int x2, .int v1, .int v3, .int v70, .int v72] [.int v92] (md wc f A) _
              refine pe_iload (j := 6) (by decide +kernel) rfl ?_
              have lw94 := zi_lo v92
              have uw94 := zi_hi v92
              have lw95 := zi_lo v72
              have uw95 := zi_hi v72
              refine pz_icmp_ge (off := 5) (t := 97) (by decide +kernel) (by decide) rfl rfl rfl (fun h93 => ?_) (fun h93 => ?_)
              · skip
                refine pe_aload_n (j := 0) (by decide +kernel) rfl ?_
                refine pe_get (j := 23) (ci := 12) (n := 12) (by decide +kernel) (by decide +kernel) (md_o hc) rfl ?_
                refine pe_bipushv (n := 9) (v := 9) (by decide +kernel) (by decide +kernel) ?_
                refine pe_iload (j := 4) (by decide +kernel) rfl ?_
                refine pz_mul (by decide +kernel) kz_9 rfl (by omega) (by omega) (fun z96 hz96 => ?_)
                refine pe_iload (j := 5) (by decide +kernel) rfl ?_
                refine pz_add (by decide +kernel) hz96 rfl (by omega) (by omega) (fun z97 hz97 => ?_)
                clear hz96
                refine pe_dup2 (by decide +kernel) ⟨rfl, rfl⟩ ?_
                refine mz_ld152 (by decide +kernel) hc hI hz97 (by omega) (by omega) (fun v98 ev98 => ?_)
                rw [ev98.trans ev92.symm]
                clear ev98 v98
                refine pe_iload_n (j := 3) (by decide +kernel) rfl ?_
                refine pz_if_ne (off := 8) (t := 120) (by decide +kernel) (by decide) rfl rfl (fun h99 => ?_) (fun h99 => by omega)
                refine pe_iload (j := 6) (by decide +kernel) rfl ?_
                refine pw_neg (by decide +kernel) (fun z100 => ?_)
                refine pw_add (by decide +kernel) (fun z101 => ?_)
                refine mz_st152 (by decide +kernel) hc hI hz97 (by omega) (by omega) (fun A102 eA102 hIA102 => ?_)
                refine pe_iconstv (n := 1) (v := 1) (by decide +kernel) (by decide +kernel) ?_
                exact pe_iret (by decide +kernel) rfl rfl ⟨f, A102, 1, rfl, hIA102, (fun k n14 n15 => rfl), (fun k n152 n153 => upa_fr eA102 n152), (by omega), Or.inr (⟨rfl, trivial⟩)⟩
              · skip
                refine pe_iconstv (n := 0) (v := 0) (by decide +kernel) (by decide +kernel) ?_
                exact pe_iret (by decide +kernel) rfl rfl ⟨f, A, 0, rfl, hI, (fun k n14 n15 => rfl), (fun k n152 n153 => rfl), (by omega), Or.inl ⟨rfl, trivial⟩⟩
end
