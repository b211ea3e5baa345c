set_option maxRecDepth 100000 in
set_option maxHeartbeats 8000000 in
theorem MM_230 {X : pm_X} {d : Nat} {wc : pm_W} {f : Nat → Int32} {A : Nat → List Int32} {x1 x2 : Int32} (hc : wc.length = 147) (hI : MI f A) (gx1 : (610 ≤ x1.toInt ∧ x1.toInt ≤ 742 ∧ (x1.toInt - 610) % 132 = 0)) (gx2 : (875 ≤ x2.toInt ∧ x2.toInt ≤ 1680)) (hp14 : (0 ≤ (f 14).toInt ∧ (f 14).toInt ≤ 29)) (ha0 : ∃ a b : Int, x2.toInt = 875 + 272 * a + 9 * b ∧ (0 ≤ a ∧ a ≤ 2) ∧ 0 ≤ b ∧ b ≤ 29) : pmE pg X pg_tyl pg_cl (d + 4) 230 0 (pm_ent (pm_max pg 230) [.ref 147, .int x1, .int x2]) [] (md wc f A) (fun q => ∃ (f' : Nat → Int32) (A' : Nat → List Int32) (r : Int32), q = (some (.int r), md wc f' A', 0, 0) ∧ MI f' A' ∧ (∀ k : Nat, k ≠ 14 → k ≠ 15 → f' k = f k) ∧ (∀ k : Nat, k ≠ 152 → k ≠ 153 → A' k = A k) ∧ ((f' 14).toInt + (-1) * (f 14).toInt + (-1)) ≤ 0 ∧ ((r = 0 ∧ True) ∨ (r = 1 ∧ True))) := by
  show pmE pg X pg_tyl pg_cl (d + 4) 230 0 [.ref 147, .int x1, .int x2, pm_dead, pm_dead, pm_dead, pm_dead] [] (md wc f A) _
  refine pe_aload_n (j := 0) (by decide +kernel) rfl ?_
  refine pe_get (j := 7) (ci := 12) (n := 0) (by decide +kernel) (by decide +kernel) (md_o hc) rfl ?_
  refine pe_iload_n (j := 2) (by decide +kernel) rfl ?_
  refine mz_ld148 (by decide +kernel) hc hI rfl (by omega) (by omega) (fun v1 ev1 pv1 => ?_)
  clear pv1
  refine pe_istore_n (j := 3) (ls' := [.ref 147, .int x1, .int x2, .int v1, pm_dead, pm_dead, pm_dead]) (by decide +kernel) (Nat.le_of_ble_eq_true rfl) rfl ?_
  refine pe_aload_n (j := 0) (by decide +kernel) rfl ?_
  refine pe_get (j := 7) (ci := 12) (n := 0) (by decide +kernel) (by decide +kernel) (md_o hc) rfl ?_
  refine pe_iload_n (j := 2) (by decide +kernel) rfl ?_
  refine pe_iconstv (n := 1) (v := 1) (by decide +kernel) (by decide +kernel) ?_
  refine pz_add (by decide +kernel) rfl kz_1 (by omega) (by omega) (fun z2 hz2 => ?_)
  refine mz_ld148 (by decide +kernel) hc hI hz2 (by omega) (by omega) (fun v3 ev3 pv3 => ?_)
  clear pv3
  clear hz2
  refine pe_istore (j := 4) (ls' := [.ref 147, .int x1, .int x2, .int v1, .int v3, pm_dead, pm_dead]) (by decide +kernel) (Nat.le_of_ble_eq_true rfl) rfl ?_
  refine pe_iload_n (j := 3) (by decide +kernel) rfl ?_
  have lw5 := zi_lo v1
  have uw5 := zi_hi v1
  refine pz_if_eq (off := 8) (t := 26) (by decide +kernel) (by decide) rfl rfl (fun h4 => ?_) (fun h4 => ?_)
  · skip
    refine pe_aload_n (j := 0) (by decide +kernel) rfl ?_
    refine pe_get (j := 7) (ci := 12) (n := 0) (by decide +kernel) (by decide +kernel) (md_o hc) rfl ?_
    refine pe_iload_n (j := 2) (by decide +kernel) rfl ?_
    refine pe_iconstv (n := 2) (v := 2) (by decide +kernel) (by decide +kernel) ?_
    refine pz_add (by decide +kernel) rfl kz_2 (by omega) (by omega) (fun z6 hz6 => ?_)
    refine mz_ld148 (by decide +kernel) hc hI hz6 (by omega) (by omega) (fun v7 ev7 pv7 => ?_)
    clear pv7
    clear hz6
    refine pe_istore (j := 5) (ls' := [.ref 147, .int x1, .int x2, .int v1, .int v3, .int v7, pm_dead]) (by decide +kernel) (Nat.le_of_ble_eq_true rfl) rfl ?_
    refine pe_aload_n (j := 0) (by decide +kernel) rfl ?_
    refine pe_get (j := 7) (ci := 12) (n := 0) (by decide +kernel) (by decide +kernel) (md_o hc) rfl ?_
    refine pe_iload_n (j := 2) (by decide +kernel) rfl ?_
    refine pe_iconstv (n := 3) (v := 3) (by decide +kernel) (by decide +kernel) ?_
    refine pz_add (by decide +kernel) rfl kz_3 (by omega) (by omega) (fun z8 hz8 => ?_)
    refine mz_ld148 (by decide +kernel) hc hI hz8 (by omega) (by omega) (fun v9 ev9 pv9 => ?_)
    clear pv9
    clear hz8
    refine pe_istore (j := 6) (ls' := [.ref 147, .int x1, .int x2, .int v1, .int v3, .int v7, .int v9]) (by decide +kernel) (Nat.le_of_ble_eq_true rfl) rfl ?_
    refine pe_aload_n (j := 0) (by decide +kernel) rfl ?_
    refine pe_iload_n (j := 1) (by decide +kernel) rfl ?_
    refine pe_iload (j := 4) (by decide +kernel) rfl ?_
    refine pi_V (j := 166) (mj := 221) (by decide +kernel) (cll_V (args := [.int v3, .int x1]) (n := 2) (by decide +kernel) rfl rfl (md_o hc) (by decide +kernel) (Nat.le_of_ble_eq_true rfl) (Nat.le_of_ble_eq_true rfl)) ?_
    show pmE pg X pg_tyl pg_cl (d + 3) 221 0 [.ref 147, .int x1, .int v3] [] (md wc f A) _
    refine pe_iload_n (j := 2) (by decide +kernel) rfl ?_
    refine pe_iconstv (n := 0) (v := 0) (by decide +kernel) (by decide +kernel) ?_
    refine pe_aload_n (j := 0) (by decide +kernel) rfl ?_
    refine pe_get (j := 7) (ci := 12) (n := 0) (by decide +kernel) (by decide +kernel) (md_o hc) rfl ?_
    refine pe_iload_n (j := 1) (by decide +kernel) rfl ?_
    refine mz_ld148 (by decide +kernel) hc hI rfl (by omega) (by omega) (fun v10 ev10 pv10 => ?_)
    have rv10 : 0 ≤ v10.toInt ∧ v10.toInt ≤ 9 := MT_people pv10 (by omega)
    clear pv10
    refine pe_iconstv (n := 1) (v := 1) (by decide +kernel) (by decide +kernel) ?_
    refine pz_sub (by decide +kernel) rfl kz_1 (by omega) (by omega) (fun z11 hz11 => ?_)
    refine pi_S (j := 119) (mj := 199) (by decide +kernel) (by decide +kernel) rfl ?_
    show pmE pg X pg_tyl pg_cl (d + 2) 199 0 [.int v3, .int 0, .int z11] [] (md wc f A) _
    refine pe_iload_n (j := 0) (by decide +kernel) rfl ?_
    refine pe_iload_n (j := 1) (by decide +kernel) rfl ?_
    have lw13 := zi_lo v3
    have uw13 := zi_hi v3
    refine pz_icmp_lt (off := 12) (t := 14) (by decide +kernel) (by decide) rfl rfl kz_0 (fun h12 => ?_) (fun h12 => ?_)
    · skip
      refine pe_iconstv (n := 0) (v := 0) (by decide +kernel) (by decide +kernel) ?_
      refine pe_iret (by decide +kernel) rfl rfl ⟨rfl, rfl, ?_⟩
      show pmE pg X pg_tyl pg_cl (d + 3) 221 13 [.ref 147, .int x1, .int v3] [.int 0] (md wc f A) _
      refine pe_iret (by decide +kernel) rfl rfl ⟨rfl, rfl, ?_⟩
      show pmE pg X pg_tyl pg_cl (d + 4) 230 53 [.ref 147, .int x1, .int x2, .int v1, .int v3, .int v7, .int v9] [.int 0] (md wc f A) _
      refine pz_if_eq (off := 42) (t := 95) (by decide +kernel) (by decide) rfl kz_0 (fun h14 => ?_) (fun h14 => by omega)
      refine pe_iconstv (n := 0) (v := 0) (by decide +kernel) (by decide +kernel) ?_
      exact pe_iret (by decide +kernel) rfl rfl ⟨f, A, 0, rfl, hI, (fun k n14 n15 => rfl), (fun k n152 n153 => rfl), (by omega), Or.inl ⟨rfl, trivial⟩⟩
    · skip
      refine pe_iload_n (j := 0) (by decide +kernel) rfl ?_
      refine pe_iload_n (j := 2) (by decide +kernel) rfl ?_
      refine pz_icmp_gt (off := 7) (t := 14) (by decide +kernel) (by decide) rfl rfl hz11 (fun h15 => ?_) (fun h15 => ?_)
      · skip
        refine pe_iconstv (n := 0) (v := 0) (by decide +kernel) (by decide +kernel) ?_
        refine pe_iret (by decide +kernel) rfl rfl ⟨rfl, rfl, ?_⟩
        show pmE pg X pg_tyl pg_cl (d + 3) 221 13 [.ref 147, .int x1, .int v3] [.int 0] (md wc f A) _
        refine pe_iret (by decide +kernel) rfl rfl ⟨rfl, rfl, ?_⟩
        show pmE pg X pg_tyl pg_cl (d + 4) 230 53 [.ref 147, .int x1, .int x2, .int v1, .int v3, .int v7, .int v9] [.int 0] (md wc f A) _
        refine pz_if_eq (off := 42) (t := 95) (by decide +kernel) (by decide) rfl kz_0 (fun h16 => ?_) (fun h16 => by omega)
        refine pe_iconstv (n := 0) (v := 0) (by decide +kernel) (by decide +kernel) ?_
        exact pe_iret (by decide +kernel) rfl rfl ⟨f, A, 0, rfl, hI, (fun k n14 n15 => rfl), (fun k n152 n153 => rfl), (by omega), Or.inl ⟨rfl, trivial⟩⟩
      · skip
        refine pe_iconstv (n := 1) (v := 1) (by decide +kernel) (by decide +kernel) ?_
        refine pe_goto (off := 4) (t := 15) (by decide +kernel) (by decide) rfl ?_
        refine pe_iret (by decide +kernel) rfl rfl ⟨rfl, rfl, ?_⟩
        show pmE pg X pg_tyl pg_cl (d + 3) 221 13 [.ref 147, .int x1, .int v3] [.int 1] (md wc f A) _
        refine pe_iret (by decide +kernel) rfl rfl ⟨rfl, rfl, ?_⟩
        show pmE pg X pg_tyl pg_cl (d + 4) 230 53 [.ref 147, .int x1, .int x2, .int v1, .int v3, .int v7, .int v9] [.int 1] (md wc f A) _
        refine pz_if_eq (off := 42) (t := 95) (by decide +kernel) (by decide) rfl kz_1 (fun h17 => by omega) (fun h17 => ?_)
        refine pe_aload_n (j := 0) (by decide +kernel) rfl ?_
        refine pe_iload_n (j := 1) (by decide +kernel) rfl ?_
        refine pe_iload (j := 5) (by decide +kernel) rfl ?_
        refine pi_V (j := 166) (mj := 221) (by decide +kernel) (cll_V (args := [.int v7, .int x1]) (n := 2) (by decide +kernel) rfl rfl (md_o hc) (by decide +kernel) (Nat.le_of_ble_eq_true rfl) (Nat.le_of_ble_eq_true rfl)) ?_
        show pmE pg X pg_tyl pg_cl (d + 3) 221 0 [.ref 147, .int x1, .int v7] [] (md wc f A) _
        refine pe_iload_n (j := 2) (by decide +kernel) rfl ?_
        refine pe_iconstv (n := 0) (v := 0) (by decide +kernel) (by decide +kernel) ?_
        refine pe_aload_n (j := 0) (by decide +kernel) rfl ?_
        refine pe_get (j := 7) (ci := 12) (n := 0) (by decide +kernel) (by decide +kernel) (md_o hc) rfl ?_
        refine pe_iload_n (j := 1) (by decide +kernel) rfl ?_
        refine mz_ld148 (by decide +kernel) hc hI rfl (by omega) (by omega) (fun v18 ev18 pv18 => ?_)
        rw [ev18.trans ev10.symm]
        clear pv18 ev18 v18
        refine pe_iconstv (n := 1) (v := 1) (by decide +kernel) (by decide +kernel) ?_
        refine pz_sub (by decide +kernel) rfl kz_1 (by omega) (by omega) (fun z19 hz19 => ?_)
        refine pi_S (j := 119) (mj := 199) (by decide +kernel) (by decide +kernel) rfl ?_
        show pmE pg X pg_tyl pg_cl (d + 2) 199 0 [.int v7, .int 0, .int z19] [] (md wc f A) _
        refine pe_iload_n (j := 0) (by decide +kernel) rfl ?_
        refine pe_iload_n (j := 1) (by decide +kernel) rfl ?_
        have lw21 := zi_lo v7
        have uw21 := zi_hi v7
        refine pz_icmp_lt (off := 12) (t := 14) (by decide +kernel) (by decide) rfl rfl kz_0 (fun h20 => ?_) (fun h20 => ?_)
        · skip
          refine pe_iconstv (n := 0) (v := 0) (by decide +kernel) (by decide +kernel) ?_
          refine pe_iret (by decide +kernel) rfl rfl ⟨rfl, rfl, ?_⟩
          show pmE pg X pg_tyl pg_cl (d + 3) 221 13 [.ref 147, .int x1, .int v7] [.int 0] (md wc f A) _
          refine pe_iret (by decide +kernel) rfl rfl ⟨rfl, rfl, ?_⟩
          show pmE pg X pg_tyl pg_cl (d + 4) 230 63 [.ref 147, .int x1, .int x2, .int v1, .int v3, .int v7, .int v9] [.int 0] (md wc f A) _
          refine pz_if_eq (off := 32) (t := 95) (by decide +kernel) (by decide) rfl kz_0 (fun h22 => ?_) (fun h22 => by omega)
          refine pe_iconstv (n := 0) (v := 0) (by decide +kernel) (by decide +kernel) ?_
          exact pe_iret (by decide +kernel) rfl rfl ⟨f, A, 0, rfl, hI, (fun k n14 n15 => rfl), (fun k n152 n153 => rfl), (by omega), Or.inl ⟨rfl, trivial⟩⟩
        · skip
          refine pe_iload_n (j := 0) (by decide +kernel) rfl ?_
          refine pe_iload_n (j := 2) (by decide +kernel) rfl ?_
          refine pz_icmp_gt (off := 7) (t := 14) (by decide +kernel) (by decide) rfl rfl hz19 (fun h23 => ?_) (fun h23 => ?_)
          · skip
            refine pe_iconstv (n := 0) (v := 0) (by decide +kernel) (by decide +kernel) ?_
            refine pe_iret (by decide +kernel) rfl rfl ⟨rfl, rfl, ?_⟩
            show pmE pg X pg_tyl pg_cl (d + 3) 221 13 [.ref 147, .int x1, .int v7] [.int 0] (md wc f A) _
            refine pe_iret (by decide +kernel) rfl rfl ⟨rfl, rfl, ?_⟩
            show pmE pg X pg_tyl pg_cl (d + 4) 230 63 [.ref 147, .int x1, .int x2, .int v1, .int v3, .int v7, .int v9] [.int 0] (md wc f A) _
            refine pz_if_eq (off := 32) (t := 95) (by decide +kernel) (by decide) rfl kz_0 (fun h24 => ?_) (fun h24 => by omega)
            refine pe_iconstv (n := 0) (v := 0) (by decide +kernel) (by decide +kernel) ?_
            exact pe_iret (by decide +kernel) rfl rfl ⟨f, A, 0, rfl, hI, (fun k n14 n15 => rfl), (fun k n152 n153 => rfl), (by omega), Or.inl ⟨rfl, trivial⟩⟩
          · skip
            refine pe_iconstv (n := 1) (v := 1) (by decide +kernel) (by decide +kernel) ?_
            refine pe_goto (off := 4) (t := 15) (by decide +kernel) (by decide) rfl ?_
            refine pe_iret (by decide +kernel) rfl rfl ⟨rfl, rfl, ?_⟩
            show pmE pg X pg_tyl pg_cl (d + 3) 221 13 [.ref 147, .int x1, .int v7] [.int 1] (md wc f A) _
            refine pe_iret (by decide +kernel) rfl rfl ⟨rfl, rfl, ?_⟩
            show pmE pg X pg_tyl pg_cl (d + 4) 230 63 [.ref 147, .int x1, .int x2, .int v1, .int v3, .int v7, .int v9] [.int 1] (md wc f A) _
            refine pz_if_eq (off := 32) (t := 95) (by decide +kernel) (by decide) rfl kz_1 (fun h25 => by omega) (fun h25 => ?_)
            refine pe_iload_n (j := 3) (by decide +kernel) rfl ?_
            refine pz_if_ne (off := 15) (t := 82) (by decide +kernel) (by decide) rfl rfl (fun h26 => by omega) (fun h26 => ?_)
            refine pe_aload_n (j := 0) (by decide +kernel) rfl ?_
            refine pe_iload_n (j := 1) (by decide +kernel) rfl ?_
            refine pe_iload (j := 4) (by decide +kernel) rfl ?_
            refine pe_iload (j := 5) (by decide +kernel) rfl ?_
            refine pz_callV (j := 199) (mj := 231) (by decide +kernel) (cll_V (args := [.int v7, .int v3, .int x1]) (n := 3) (by decide +kernel) rfl rfl (md_o hc) (by decide +kernel) (Nat.le_of_ble_eq_true rfl) (Nat.le_of_ble_eq_true rfl)) (MM_231 hc hI (by omega) (by omega) (by omega)) (fun q27a q27b q27c q27d hqq27 => ?_)
            obtain ⟨rq27, eq27, kq27⟩ := hqq27
            cases eq27
            refine ⟨rfl, rfl, ?_⟩
            show pmE pg X pg_tyl pg_cl (d + 4) 230 79 [.ref 147, .int x1, .int x2, .int v1, .int v3, .int v7, .int v9] [.int rq27] (md wc f A) _
            refine pe_goto (off := 11) (t := 90) (by decide +kernel) (by decide) rfl ?_
            refine pe_iload (j := 6) (by decide +kernel) rfl ?_
            have lw29 := zi_lo rq27
            have uw29 := zi_hi rq27
            have lw30 := zi_lo v9
            have uw30 := zi_hi v9
            refine pz_icmp_ge (off := 5) (t := 97) (by decide +kernel) (by decide) rfl rfl rfl (fun h28 => ?_) (fun h28 => ?_)
            · skip
              refine pe_aload_n (j := 0) (by decide +kernel) rfl ?_
              refine pe_get (j := 23) (ci := 12) (n := 12) (by decide +kernel) (by decide +kernel) (md_o hc) rfl ?_
              refine pe_bipushv (n := 9) (v := 9) (by decide +kernel) (by decide +kernel) ?_
              refine pe_iload (j := 4) (by decide +kernel) rfl ?_
              refine pz_mul (by decide +kernel) kz_9 rfl (by omega) (by omega) (fun z31 hz31 => ?_)
              refine pe_iload (j := 5) (by decide +kernel) rfl ?_
              refine pz_add (by decide +kernel) hz31 rfl (by omega) (by omega) (fun z32 hz32 => ?_)
              clear hz31
              refine pe_dup2 (by decide +kernel) ⟨rfl, rfl⟩ ?_
              refine mz_ld152 (by decide +kernel) hc hI hz32 (by omega) (by omega) (fun v33 ev33 => ?_)
              refine pe_iload_n (j := 3) (by decide +kernel) rfl ?_
              refine pz_if_ne (off := 8) (t := 120) (by decide +kernel) (by decide) rfl rfl (fun h34 => by omega) (fun h34 => ?_)
              refine pe_iload (j := 6) (by decide +kernel) rfl ?_
              refine pe_goto (off := 6) (t := 123) (by decide +kernel) (by decide) rfl ?_
              refine pw_add (by decide +kernel) (fun z35 => ?_)
              refine mz_st152 (by decide +kernel) hc hI hz32 (by omega) (by omega) (fun A36 eA36 hIA36 => ?_)
              refine pe_iconstv (n := 1) (v := 1) (by decide +kernel) (by decide +kernel) ?_
              exact pe_iret (by decide +kernel) rfl rfl ⟨f, A36, 1, rfl, hIA36, (fun k n14 n15 => rfl), (fun k n152 n153 => upa_fr eA36 n152), (by omega), Or.inr (⟨rfl, trivial⟩)⟩
            · skip
              refine pe_iconstv (n := 0) (v := 0) (by decide +kernel) (by decide +kernel) ?_
              exact pe_iret (by decide +kernel) rfl rfl ⟨f, A, 0, rfl, hI, (fun k n14 n15 => rfl), (fun k n152 n153 => rfl), (by omega), Or.inl ⟨rfl, trivial⟩⟩
  · skip
    refine pe_iload_n (j := 3) (by decide +kernel) rfl ?_
    refine pe_iconstv (n := 1) (v := 1) (by decide +kernel) (by decide +kernel) ?_
    refine pz_icmp_ne (off := 104) (t := 127) (by decide +kernel) (by decide) rfl rfl kz_1 (fun h37 => ?_) (fun h37 => ?_)
    · skip
      refine pe_iload_n (j := 3) (by decide +kernel) rfl ?_
      refine pe_iconstv (n := 2) (v := 2) (by decide +kernel) (by decide +kernel) ?_
      refine pz_icmp_ne (off := 10) (t := 139) (by decide +kernel) (by decide) rfl rfl kz_2 (fun h38 => ?_) (fun h38 => ?_)
      · skip
        refine pe_iload_n (j := 3) (by decide +kernel) rfl ?_
        refine pe_iconstv (n := 3) (v := 3) (by decide +kernel) (by decide +kernel) ?_
        refine pz_icmp_ne (off := 32) (t := 173) (by decide +kernel) (by decide) rfl rfl kz_3 (fun h39 => ?_) (fun h39 => ?_)
        · skip
          refine pe_iload_n (j := 3) (by decide +kernel) rfl ?_
          refine pe_iconstv (n := 4) (v := 4) (by decide +kernel) (by decide +kernel) ?_
          refine pz_icmp_ne (off := 24) (t := 199) (by decide +kernel) (by decide) rfl rfl kz_4 (fun h40 => ?_) (fun h40 => ?_)
          · skip
            refine pe_aload_n (j := 0) (by decide +kernel) rfl ?_
            refine pz_callV (j := 208) (mj := 240) (by decide +kernel) (cll_V (args := []) (n := 0) (by decide +kernel) rfl rfl (md_o hc) (by decide +kernel) (Nat.le_of_ble_eq_true rfl) (Nat.le_of_ble_eq_true rfl)) (MM_240 hc hI) (fun q41a q41b q41c q41d hqq41 => ?_)
            obtain ⟨f42, A43, eq41, hIq41, hGq41, hFq41, kq41⟩ := hqq41
            cases eq41
            refine ⟨rfl, rfl, ?_⟩
            show pmE pg X pg_tyl pg_cl (d + 4) 230 203 [.ref 147, .int x1, .int x2, .int v1, .int v3, pm_dead, pm_dead] [] (md wc f42 A43) _
            refine pe_iconstv (n := 1) (v := 1) (by decide +kernel) (by decide +kernel) ?_
            have hx44 : (f42 14).toInt = (f 14).toInt := (congrArg Int32.toInt (show f42 14 = (f 14) from (hGq41 14 (by decide)))).trans rfl
            exact pe_iret (by decide +kernel) rfl rfl ⟨f42, A43, 1, rfl, hIq41, (fun k n14 n15 => (hGq41 k n15)), (fun k n152 n153 => (hFq41 k n152 n153)), (by omega), Or.inr (⟨rfl, trivial⟩)⟩
          · skip
            refine pe_aload_n (j := 0) (by decide +kernel) rfl ?_
            refine pe_iload_n (j := 1) (by decide +kernel) rfl ?_
            refine pe_iload (j := 4) (by decide +kernel) rfl ?_
            refine pi_V (j := 166) (mj := 221) (by decide +kernel) (cll_V (args := [.int v3, .int x1]) (n := 2) (by decide +kernel) rfl rfl (md_o hc) (by decide +kernel) (Nat.le_of_ble_eq_true rfl) (Nat.le_of_ble_eq_true rfl)) ?_
            show pmE pg X pg_tyl pg_cl (d + 3) 221 0 [.ref 147, .int x1, .int v3] [] (md wc f A) _
            refine pe_iload_n (j := 2) (by decide +kernel) rfl ?_
            refine pe_iconstv (n := 0) (v := 0) (by decide +kernel) (by decide +kernel) ?_
            refine pe_aload_n (j := 0) (by decide +kernel) rfl ?_
            refine pe_get (j := 7) (ci := 12) (n := 0) (by decide +kernel) (by decide +kernel) (md_o hc) rfl ?_
            refine pe_iload_n (j := 1) (by decide +kernel) rfl ?_
            refine mz_ld148 (by decide +kernel) hc hI rfl (by omega) (by omega) (fun v45 ev45 pv45 => ?_)
            have rv45 : 0 ≤ v45.toInt ∧ v45.toInt ≤ 9 := MT_people pv45 (by omega)
            clear pv45
            refine pe_iconstv (n := 1) (v := 1) (by decide +kernel) (by decide +kernel) ?_
            refine pz_sub (by decide +kernel) rfl kz_1 (by omega) (by omega) (fun z46 hz46 => ?_)
            refine pi_S (j := 119) (mj := 199) (by decide +kernel) (by decide +kernel) rfl ?_
            show pmE pg X pg_tyl pg_cl (d + 2) 199 0 [.int v3, .int 0, .int z46] [] (md wc f A) _
            refine pe_iload_n (j := 0) (by decide +kernel) rfl ?_
            refine pe_iload_n (j := 1) (by decide +kernel) rfl ?_
            have lw48 := zi_lo v3
            have uw48 := zi_hi v3
            refine pz_icmp_lt (off := 12) (t := 14) (by decide +kernel) (by decide) rfl rfl kz_0 (fun h47 => ?_) (fun h47 => ?_)
            · skip
              refine pe_iconstv (n := 0) (v := 0) (by decide +kernel) (by decide +kernel) ?_
              refine pe_iret (by decide +kernel) rfl rfl ⟨rfl, rfl, ?_⟩
              show pmE pg X pg_tyl pg_cl (d + 3) 221 13 [.ref 147, .int x1, .int v3] [.int 0] (md wc f A) _
              refine pe_iret (by decide +kernel) rfl rfl ⟨rfl, rfl, ?_⟩
              show pmE pg X pg_tyl pg_cl (d + 4) 230 185 [.ref 147, .int x1, .int x2, .int v1, .int v3, pm_dead, pm_dead] [.int 0] (md wc f A) _
              refine pz_if_ne (off := 5) (t := 190) (by decide +kernel) (by decide) rfl kz_0 (fun h49 => by omega) (fun h49 => ?_)
              refine pe_iconstv (n := 0) (v := 0) (by decide +kernel) (by decide +kernel) ?_
              exact pe_iret (by decide +kernel) rfl rfl ⟨f, A, 0, rfl, hI, (fun k n14 n15 => rfl), (fun k n152 n153 => rfl), (by omega), Or.inl ⟨rfl, trivial⟩⟩
            · skip
              refine pe_iload_n (j := 0) (by decide +kernel) rfl ?_
              refine pe_iload_n (j := 2) (by decide +kernel) rfl ?_
              refine pz_icmp_gt (off := 7) (t := 14) (by decide +kernel) (by decide) rfl rfl hz46 (fun h50 => ?_) (fun h50 => ?_)
              · skip
                refine pe_iconstv (n := 0) (v := 0) (by decide +kernel) (by decide +kernel) ?_
                refine pe_iret (by decide +kernel) rfl rfl ⟨rfl, rfl, ?_⟩
                show pmE pg X pg_tyl pg_cl (d + 3) 221 13 [.ref 147, .int x1, .int v3] [.int 0] (md wc f A) _
                refine pe_iret (by decide +kernel) rfl rfl ⟨rfl, rfl, ?_⟩
                show pmE pg X pg_tyl pg_cl (d + 4) 230 185 [.ref 147, .int x1, .int x2, .int v1, .int v3, pm_dead, pm_dead] [.int 0] (md wc f A) _
                refine pz_if_ne (off := 5) (t := 190) (by decide +kernel) (by decide) rfl kz_0 (fun h51 => by omega) (fun h51 => ?_)
                refine pe_iconstv (n := 0) (v := 0) (by decide +kernel) (by decide +kernel) ?_
                exact pe_iret (by decide +kernel) rfl rfl ⟨f, A, 0, rfl, hI, (fun k n14 n15 => rfl), (fun k n152 n153 => rfl), (by omega), Or.inl ⟨rfl, trivial⟩⟩
              · skip
                refine pe_iconstv (n := 1) (v := 1) (by decide +kernel) (by decide +kernel) ?_
                refine pe_goto (off := 4) (t := 15) (by decide +kernel) (by decide) rfl ?_
                refine pe_iret (by decide +kernel) rfl rfl ⟨rfl, rfl, ?_⟩
                show pmE pg X pg_tyl pg_cl (d + 3) 221 13 [.ref 147, .int x1, .int v3] [.int 1] (md wc f A) _
                refine pe_iret (by decide +kernel) rfl rfl ⟨rfl, rfl, ?_⟩
                show pmE pg X pg_tyl pg_cl (d + 4) 230 185 [.ref 147, .int x1, .int x2, .int v1, .int v3, pm_dead, pm_dead] [.int 1] (md wc f A) _
                refine pz_if_ne (off := 5) (t := 190) (by decide +kernel) (by decide) rfl kz_1 (fun h52 => ?_) (fun h52 => by omega)
                refine pe_aload_n (j := 0) (by decide +kernel) rfl ?_
                refine pe_iload (j := 4) (by decide +kernel) rfl ?_
                refine pz_callV (j := 205) (mj := 238) (by decide +kernel) (cll_V (args := [.int v3]) (n := 1) (by decide +kernel) rfl rfl (md_o hc) (by decide +kernel) (Nat.le_of_ble_eq_true rfl) (Nat.le_of_ble_eq_true rfl)) (MM_238 hc hI (by omega)) (fun q53a q53b q53c q53d hqq53 => ?_)
                obtain ⟨A54, eq53, hIq53, hFq53, kq53⟩ := hqq53
                cases eq53
                refine ⟨rfl, rfl, ?_⟩
                show pmE pg X pg_tyl pg_cl (d + 4) 230 196 [.ref 147, .int x1, .int x2, .int v1, .int v3, pm_dead, pm_dead] [] (md wc f A54) _
                refine pe_goto (off := 7) (t := 203) (by decide +kernel) (by decide) rfl ?_
                refine pe_iconstv (n := 1) (v := 1) (by decide +kernel) (by decide +kernel) ?_
                exact pe_iret (by decide +kernel) rfl rfl ⟨f, A54, 1, rfl, hIq53, (fun k n14 n15 => rfl), (fun k n152 n153 => (hFq53 k n152 n153)), (by omega), Or.inr (⟨rfl, trivial⟩)⟩
        · skip
          have hst := mi_row hI (i := x2.toInt) ha0 ev1 ev3 (by omega)
          refine pe_iload (j := 4) (by decide +kernel) rfl ?_
          refine pe_aload_n (j := 0) (by decide +kernel) rfl ?_
          refine pe_get (j := 175) (ci := 12) (n := 14) (by decide +kernel) (by decide +kernel) (md_o hc) rfl ?_
          have lw56 := zi_lo v3
          have uw56 := zi_hi v3
          refine pz_icmp_ge (off := 12) (t := 162) (by decide +kernel) (by decide) rfl rfl rfl (fun h55 => ?_) (fun h55 => ?_)
          · skip
            refine pe_iconstv (n := 0) (v := 0) (by decide +kernel) (by decide +kernel) ?_
            exact pe_iret (by decide +kernel) rfl rfl ⟨f, A, 0, rfl, hI, (fun k n14 n15 => rfl), (fun k n152 n153 => rfl), (by omega), Or.inl ⟨rfl, trivial⟩⟩
          · skip
            refine pe_aload_n (j := 0) (by decide +kernel) rfl ?_
            refine pe_iload (j := 4) (by decide +kernel) rfl ?_
            refine pi_V (j := 190) (mj := 236) (by decide +kernel) (cll_V (args := [.int v3]) (n := 1) (by decide +kernel) rfl rfl (md_o hc) (by decide +kernel) (Nat.le_of_ble_eq_true rfl) (Nat.le_of_ble_eq_true rfl)) ?_
            show pmE pg X pg_tyl pg_cl (d + 3) 236 0 [.ref 147, .int v3] [] (md wc f A) _
            refine pe_aload_n (j := 0) (by decide +kernel) rfl ?_
            refine pe_get (j := 26) (ci := 12) (n := 13) (by decide +kernel) (by decide +kernel) (md_o hc) rfl ?_
            refine pe_bipushv (n := 10) (v := 10) (by decide +kernel) (by decide +kernel) ?_
            refine pe_iload_n (j := 1) (by decide +kernel) rfl ?_
            refine pz_mul (by decide +kernel) kz_10 rfl (by omega) (by omega) (fun z57 hz57 => ?_)
            refine pe_iconstv (n := 3) (v := 3) (by decide +kernel) (by decide +kernel) ?_
            refine pz_add (by decide +kernel) hz57 kz_3 (by omega) (by omega) (fun z58 hz58 => ?_)
            clear hz57
            refine mz_ld153 (by decide +kernel) hc hI hz58 (by omega) (by omega) (fun v59 ev59 pv59 => ?_)
            clear hz58
            refine pe_iconstv (n := 1) (v := 1) (by decide +kernel) (by decide +kernel) ?_
            have lw61 := zi_lo v59
            have uw61 := zi_hi v59
            refine pz_icmp_ne (off := 7) (t := 19) (by decide +kernel) (by decide) rfl rfl kz_1 (fun h60 => ?_) (fun h60 => ?_)
            · skip
              refine pe_iconstv (n := 0) (v := 0) (by decide +kernel) (by decide +kernel) ?_
              refine pe_iret (by decide +kernel) rfl rfl ⟨rfl, rfl, ?_⟩
              show pmE pg X pg_tyl pg_cl (d + 4) 230 159 [.ref 147, .int x1, .int x2, .int v1, .int v3, pm_dead, pm_dead] [.int 0] (md wc f A) _
              refine pz_if_ne (off := 5) (t := 164) (by decide +kernel) (by decide) rfl kz_0 (fun h62 => by omega) (fun h62 => ?_)
              refine pe_iconstv (n := 0) (v := 0) (by decide +kernel) (by decide +kernel) ?_
              exact pe_iret (by decide +kernel) rfl rfl ⟨f, A, 0, rfl, hI, (fun k n14 n15 => rfl), (fun k n152 n153 => rfl), (by omega), Or.inl ⟨rfl, trivial⟩⟩
            · skip
              refine pe_iconstv (n := 1) (v := 1) (by decide +kernel) (by decide +kernel) ?_
              refine pe_goto (off := 4) (t := 20) (by decide +kernel) (by decide) rfl ?_
              refine pe_iret (by decide +kernel) rfl rfl ⟨rfl, rfl, ?_⟩
              show pmE pg X pg_tyl pg_cl (d + 4) 230 159 [.ref 147, .int x1, .int x2, .int v1, .int v3, pm_dead, pm_dead] [.int 1] (md wc f A) _
              refine pz_if_ne (off := 5) (t := 164) (by decide +kernel) (by decide) rfl kz_1 (fun h63 => ?_) (fun h63 => by omega)
              refine pe_aload_n (j := 0) (by decide +kernel) rfl ?_
              refine pe_iload (j := 4) (by decide +kernel) rfl ?_
              refine pz_callV (j := 196) (mj := 237) (by decide +kernel) (cll_V (args := [.int v3]) (n := 1) (by decide +kernel) rfl rfl (md_o hc) (by decide +kernel) (Nat.le_of_ble_eq_true rfl) (Nat.le_of_ble_eq_true rfl)) (MM_237 hc hI (by omega)) (fun q64a q64b q64c q64d hqq64 => ?_)
              obtain ⟨A65, eq64, hIq64, hFq64, kq64⟩ := hqq64
              cases eq64
              refine ⟨rfl, rfl, ?_⟩
              show pmE pg X pg_tyl pg_cl (d + 4) 230 170 [.ref 147, .int x1, .int x2, .int v1, .int v3, pm_dead, pm_dead] [] (md wc f A65) _
              refine pe_goto (off := 33) (t := 203) (by decide +kernel) (by decide) rfl ?_
              refine pe_iconstv (n := 1) (v := 1) (by decide +kernel) (by decide +kernel) ?_
              exact pe_iret (by decide +kernel) rfl rfl ⟨f, A65, 1, rfl, hIq64, (fun k n14 n15 => rfl), (fun k n152 n153 => (hFq64 k n152 n153)), (by omega), Or.inr (⟨rfl, trivial⟩)⟩
      · skip
        refine pe_aload_n (j := 0) (by decide +kernel) rfl ?_
        refine pe_iload_n (j := 1) (by decide +kernel) rfl ?_
        refine pe_iload_n (j := 2) (by decide +kernel) rfl ?_
        refine pz_callV (j := 202) (mj := 233) (by decide +kernel) (cll_V (args := [.int x2, .int x1]) (n := 2) (by decide +kernel) rfl rfl (md_o hc) (by decide +kernel) (Nat.le_of_ble_eq_true rfl) (Nat.le_of_ble_eq_true rfl)) (MM_233 hc hI (by omega) (by omega) (by omega)) (fun q66a q66b q66c q66d hqq66 => ?_)
        obtain ⟨f67, A68, rq66, eq66, hIq66, hGq66, hFq66, hX0q66, kq66⟩ := hqq66
        cases eq66
        refine ⟨rfl, rfl, ?_⟩
        have hr_14_f67 := hIq66.1 14
        simp only [MF] at hr_14_f67
        rcases kq66 with kq66 | kq66
        · skip
          obtain ⟨erq66, kq66⟩ := kq66
          subst erq66
          show pmE pg X pg_tyl pg_cl (d + 4) 230 138 [.ref 147, .int x1, .int x2, .int v1, .int v3, pm_dead, pm_dead] [.int 1] (md wc f67 A68) _
          exact pe_iret (by decide +kernel) rfl rfl ⟨f67, A68, 1, rfl, hIq66, (fun k n14 n15 => (hGq66 k n14)), (fun k n152 n153 => (hFq66 k n152 n153)), (by omega), Or.inr (⟨rfl, trivial⟩)⟩
        · skip
          obtain ⟨erq66, kq66⟩ := kq66
          subst erq66
          show pmE pg X pg_tyl pg_cl (d + 4) 230 138 [.ref 147, .int x1, .int x2, .int v1, .int v3, pm_dead, pm_dead] [.int 0] (md wc f67 A68) _
          exact pe_iret (by decide +kernel) rfl rfl ⟨f67, A68, 0, rfl, hIq66, (fun k n14 n15 => (hGq66 k n14)), (fun k n152 n153 => (hFq66 k n152 n153)), (by omega), Or.inl ⟨rfl, trivial⟩⟩
    · skip
      refine pe_aload_n (j := 0) (by decide +kernel) rfl ?_
      refine pe_get (j := 7) (ci := 12) (n := 0) (by decide +kernel) (by decide +kernel) (md_o hc) rfl ?_
      refine pe_iload_n (j := 2) (by decide +kernel) rfl ?_
      refine pe_iconstv (n := 2) (v := 2) (by decide +kernel) (by decide +kernel) ?_
      refine pz_add (by decide +kernel) rfl kz_2 (by omega) (by omega) (fun z69 hz69 => ?_)
      refine mz_ld148 (by decide +kernel) hc hI hz69 (by omega) (by omega) (fun v70 ev70 pv70 => ?_)
      clear pv70
      clear hz69
      refine pe_istore (j := 5) (ls' := [.ref 147, .int x1, .int x2, .int v1, .int v3, .int v70, pm_dead]) (by decide +kernel) (Nat.le_of_ble_eq_true rfl) rfl ?_
      refine pe_aload_n (j := 0) (by decide +kernel) rfl ?_
      refine pe_get (j := 7) (ci := 12) (n := 0) (by decide +kernel) (by decide +kernel) (md_o hc) rfl ?_
      refine pe_iload_n (j := 2) (by decide +kernel) rfl ?_
      refine pe_iconstv (n := 3) (v := 3) (by decide +kernel) (by decide +kernel) ?_
      refine pz_add (by decide +kernel) rfl kz_3 (by omega) (by omega) (fun z71 hz71 => ?_)
      refine mz_ld148 (by decide +kernel) hc hI hz71 (by omega) (by omega) (fun v72 ev72 pv72 => ?_)
      clear pv72
      clear hz71
      refine pe_istore (j := 6) (ls' := [.ref 147, .int x1, .int x2, .int v1, .int v3, .int v70, .int v72]) (by decide +kernel) (Nat.le_of_ble_eq_true rfl) rfl ?_
      refine pe_aload_n (j := 0) (by decide +kernel) rfl ?_
      refine pe_iload_n (j := 1) (by decide +kernel) rfl ?_
      refine pe_iload (j := 4) (by decide +kernel) rfl ?_
      refine pi_V (j := 166) (mj := 221) (by decide +kernel) (cll_V (args := [.int v3, .int x1]) (n := 2) (by decide +kernel) rfl rfl (md_o hc) (by decide +kernel) (Nat.le_of_ble_eq_true rfl) (Nat.le_of_ble_eq_true rfl)) ?_
      show pmE pg X pg_tyl pg_cl (d + 3) 221 0 [.ref 147, .int x1, .int v3] [] (md wc f A) _
      refine pe_iload_n (j := 2) (by decide +kernel) rfl ?_
      refine pe_iconstv (n := 0) (v := 0) (by decide +kernel) (by decide +kernel) ?_
      refine pe_aload_n (j := 0) (by decide +kernel) rfl ?_
      refine pe_get (j := 7) (ci := 12) (n := 0) (by decide +kernel) (by decide +kernel) (md_o hc) rfl ?_
      refine pe_iload_n (j := 1) (by decide +kernel) rfl ?_
      refine mz_ld148 (by decide +kernel) hc hI rfl (by omega) (by omega) (fun v73 ev73 pv73 => ?_)
      have rv73 : 0 ≤ v73.toInt ∧ v73.toInt ≤ 9 := MT_people pv73 (by omega)
      clear pv73
      refine pe_iconstv (n := 1) (v := 1) (by decide +kernel) (by decide +kernel) ?_
      refine pz_sub (by decide +kernel) rfl kz_1 (by omega) (by omega) (fun z74 hz74 => ?_)
      refine pi_S (j := 119) (mj := 199) (by decide +kernel) (by decide +kernel) rfl ?_
      show pmE pg X pg_tyl pg_cl (d + 2) 199 0 [.int v3, .int 0, .int z74] [] (md wc f A) _
      refine pe_iload_n (j := 0) (by decide +kernel) rfl ?_
      refine pe_iload_n (j := 1) (by decide +kernel) rfl ?_
      have lw76 := zi_lo v3
      have uw76 := zi_hi v3
      refine pz_icmp_lt (off := 12) (t := 14) (by decide +kernel) (by decide) rfl rfl kz_0 (fun h75 => ?_) (fun h75 => ?_)
      · skip
        refine pe_iconstv (n := 0) (v := 0) (by decide +kernel) (by decide +kernel) ?_
        refine pe_iret (by decide +kernel) rfl rfl ⟨rfl, rfl, ?_⟩
        show pmE pg X pg_tyl pg_cl (d + 3) 221 13 [.ref 147, .int x1, .int v3] [.int 0] (md wc f A) _
        refine pe_iret (by decide +kernel) rfl rfl ⟨rfl, rfl, ?_⟩
        show pmE pg X pg_tyl pg_cl (d + 4) 230 53 [.ref 147, .int x1, .int x2, .int v1, .int v3, .int v70, .int v72] [.int 0] (md wc f A) _
        refine pz_if_eq (off := 42) (t := 95) (by decide +kernel) (by decide) rfl kz_0 (fun h77 => ?_) (fun h77 => by omega)
        refine pe_iconstv (n := 0) (v := 0) (by decide +kernel) (by decide +kernel) ?_
        exact pe_iret (by decide +kernel) rfl rfl ⟨f, A, 0, rfl, hI, (fun k n14 n15 => rfl), (fun k n152 n153 => rfl), (by omega), Or.inl ⟨rfl, trivial⟩⟩
      · skip
        refine pe_iload_n (j := 0) (by decide +kernel) rfl ?_
        refine pe_iload_n (j := 2) (by decide +kernel) rfl ?_
        refine pz_icmp_gt (off := 7) (t := 14) (by decide +kernel) (by decide) rfl rfl hz74 (fun h78 => ?_) (fun h78 => ?_)
        · skip
          refine pe_iconstv (n := 0) (v := 0) (by decide +kernel) (by decide +kernel) ?_
          refine pe_iret (by decide +kernel) rfl rfl ⟨rfl, rfl, ?_⟩
          show pmE pg X pg_tyl pg_cl (d + 3) 221 13 [.ref 147, .int x1, .int v3] [.int 0] (md wc f A) _
          refine pe_iret (by decide +kernel) rfl rfl ⟨rfl, rfl, ?_⟩
          show pmE pg X pg_tyl pg_cl (d + 4) 230 53 [.ref 147, .int x1, .int x2, .int v1, .int v3, .int v70, .int v72] [.int 0] (md wc f A) _
          refine pz_if_eq (off := 42) (t := 95) (by decide +kernel) (by decide) rfl kz_0 (fun h79 => ?_) (fun h79 => by omega)
          refine pe_iconstv (n := 0) (v := 0) (by decide +kernel) (by decide +kernel) ?_
          exact pe_iret (by decide +kernel) rfl rfl ⟨f, A, 0, rfl, hI, (fun k n14 n15 => rfl), (fun k n152 n153 => rfl), (by omega), Or.inl ⟨rfl, trivial⟩⟩
        · skip
          refine pe_iconstv (n := 1) (v := 1) (by decide +kernel) (by decide +kernel) ?_
          refine pe_goto (off := 4) (t := 15) (by decide +kernel) (by decide) rfl ?_
          refine pe_iret (by decide +kernel) rfl rfl ⟨rfl, rfl, ?_⟩
          show pmE pg X pg_tyl pg_cl (d + 3) 221 13 [.ref 147, .int x1, .int v3] [.int 1] (md wc f A) _
          refine pe_iret (by decide +kernel) rfl rfl ⟨rfl, rfl, ?_⟩
          show pmE pg X pg_tyl pg_cl (d + 4) 230 53 [.ref 147, .int x1, .int x2, .int v1, .int v3, .int v70, .int v72] [.int 1] (md wc f A) _
          refine pz_if_eq (off := 42) (t := 95) (by decide +kernel) (by decide) rfl kz_1 (fun h80 => by omega) (fun h80 => ?_)
          refine pe_aload_n (j := 0) (by decide +kernel) rfl ?_
          refine pe_iload_n (j := 1) (by decide +kernel) rfl ?_
          refine pe_iload (j := 5) (by decide +kernel) rfl ?_
          refine pi_V (j := 166) (mj := 221) (by decide +kernel) (cll_V (args := [.int v70, .int x1]) (n := 2) (by decide +kernel) rfl rfl (md_o hc) (by decide +kernel) (Nat.le_of_ble_eq_true rfl) (Nat.le_of_ble_eq_true rfl)) ?_
          show pmE pg X pg_tyl pg_cl (d + 3) 221 0 [.ref 147, .int x1, .int v70] [] (md wc f A) _
          refine pe_iload_n (j := 2) (by decide +kernel) rfl ?_
          refine pe_iconstv (n := 0) (v := 0) (by decide +kernel) (by decide +kernel) ?_
          refine pe_aload_n (j := 0) (by decide +kernel) rfl ?_
          refine pe_get (j := 7) (ci := 12) (n := 0) (by decide +kernel) (by decide +kernel) (md_o hc) rfl ?_
          refine pe_iload_n (j := 1) (by decide +kernel) rfl ?_
          refine mz_ld148 (by decide +kernel) hc hI rfl (by omega) (by omega) (fun v81 ev81 pv81 => ?_)
          rw [ev81.trans ev73.symm]
          clear pv81 ev81 v81
          refine pe_iconstv (n := 1) (v := 1) (by decide +kernel) (by decide +kernel) ?_
          refine pz_sub (by decide +kernel) rfl kz_1 (by omega) (by omega) (fun z82 hz82 => ?_)
          refine pi_S (j := 119) (mj := 199) (by decide +kernel) (by decide +kernel) rfl ?_
          show pmE pg X pg_tyl pg_cl (d + 2) 199 0 [.int v70, .int 0, .int z82] [] (md wc f A) _
          refine pe_iload_n (j := 0) (by decide +kernel) rfl ?_
          refine pe_iload_n (j := 1) (by decide +kernel) rfl ?_
          have lw84 := zi_lo v70
          have uw84 := zi_hi v70
          refine pz_icmp_lt (off := 12) (t := 14) (by decide +kernel) (by decide) rfl rfl kz_0 (fun h83 => ?_) (fun h83 => ?_)
          · skip
            refine pe_iconstv (n := 0) (v := 0) (by decide +kernel) (by decide +kernel) ?_
            refine pe_iret (by decide +kernel) rfl rfl ⟨rfl, rfl, ?_⟩
            show pmE pg X pg_tyl pg_cl (d + 3) 221 13 [.ref 147, .int x1, .int v70] [.int 0] (md wc f A) _
            refine pe_iret (by decide +kernel) rfl rfl ⟨rfl, rfl, ?_⟩
            show pmE pg X pg_tyl pg_cl (d + 4) 230 63 [.ref 147, .int x1, .int x2, .int v1, .int v3, .int v70, .int v72] [.int 0] (md wc f A) _
            refine pz_if_eq (off := 32) (t := 95) (by decide +kernel) (by decide) rfl kz_0 (fun h85 => ?_) (fun h85 => by omega)
            refine pe_iconstv (n := 0) (v := 0) (by decide +kernel) (by decide +kernel) ?_
            exact pe_iret (by decide +kernel) rfl rfl ⟨f, A, 0, rfl, hI, (fun k n14 n15 => rfl), (fun k n152 n153 => rfl), (by omega), Or.inl ⟨rfl, trivial⟩⟩
          · skip
            refine pe_iload_n (j := 0) (by decide +kernel) rfl ?_
            refine pe_iload_n (j := 2) (by decide +kernel) rfl ?_
            refine pz_icmp_gt (off := 7) (t := 14) (by decide +kernel) (by decide) rfl rfl hz82 (fun h86 => ?_) (fun h86 => ?_)
            · skip
              refine pe_iconstv (n := 0) (v := 0) (by decide +kernel) (by decide +kernel) ?_
              refine pe_iret (by decide +kernel) rfl rfl ⟨rfl, rfl, ?_⟩
              show pmE pg X pg_tyl pg_cl (d + 3) 221 13 [.ref 147, .int x1, .int v70] [.int 0] (md wc f A) _
              refine pe_iret (by decide +kernel) rfl rfl ⟨rfl, rfl, ?_⟩
              show pmE pg X pg_tyl pg_cl (d + 4) 230 63 [.ref 147, .int x1, .int x2, .int v1, .int v3, .int v70, .int v72] [.int 0] (md wc f A) _
              refine pz_if_eq (off := 32) (t := 95) (by decide +kernel) (by decide) rfl kz_0 (fun h87 => ?_) (fun h87 => by omega)
              refine pe_iconstv (n := 0) (v := 0) (by decide +kernel) (by decide +kernel) ?_
              exact pe_iret (by decide +kernel) rfl rfl ⟨f, A, 0, rfl, hI, (fun k n14 n15 => rfl), (fun k n152 n153 => rfl), (by omega), Or.inl ⟨rfl, trivial⟩⟩
            · skip
              refine pe_iconstv (n := 1) (v := 1) (by decide +kernel) (by decide +kernel) ?_
              refine pe_goto (off := 4) (t := 15) (by decide +kernel) (by decide) rfl ?_
              refine pe_iret (by decide +kernel) rfl rfl ⟨rfl, rfl, ?_⟩
              show pmE pg X pg_tyl pg_cl (d + 3) 221 13 [.ref 147, .int x1, .int v70] [.int 1] (md wc f A) _
              refine pe_iret (by decide +kernel) rfl rfl ⟨rfl, rfl, ?_⟩
              show pmE pg X pg_tyl pg_cl (d + 4) 230 63 [.ref 147, .int x1, .int x2, .int v1, .int v3, .int v70, .int v72] [.int 1] (md wc f A) _
              refine pz_if_eq (off := 32) (t := 95) (by decide +kernel) (by decide) rfl kz_1 (fun h88 => by omega) (fun h88 => ?_)
              refine pe_iload_n (j := 3) (by decide +kernel) rfl ?_
              refine pz_if_ne (off := 15) (t := 82) (by decide +kernel) (by decide) rfl rfl (fun h89 => ?_) (fun h89 => by omega)
              refine pe_aload_n (j := 0) (by decide +kernel) rfl ?_
              refine pe_iload (j := 4) (by decide +kernel) rfl ?_
              refine pe_iload (j := 5) (by decide +kernel) rfl ?_
              refine pi_V (j := 181) (mj := 232) (by decide +kernel) (cll_V (args := [.int v70, .int v3]) (n := 2) (by decide +kernel) rfl rfl (md_o hc) (by decide +kernel) (Nat.le_of_ble_eq_true rfl) (Nat.le_of_ble_eq_true rfl)) ?_
              show pmE pg X pg_tyl pg_cl (d + 3) 232 0 [.ref 147, .int v3, .int v70] [] (md wc f A) _
              refine pe_aload_n (j := 0) (by decide +kernel) rfl ?_
              refine pe_get (j := 23) (ci := 12) (n := 12) (by decide +kernel) (by decide +kernel) (md_o hc) rfl ?_
              refine pe_bipushv (n := 9) (v := 9) (by decide +kernel) (by decide +kernel) ?_
              refine pe_iload_n (j := 1) (by decide +kernel) rfl ?_
              refine pz_mul (by decide +kernel) kz_9 rfl (by omega) (by omega) (fun z90 hz90 => ?_)
              refine pe_iload_n (j := 2) (by decide +kernel) rfl ?_
              refine pz_add (by decide +kernel) hz90 rfl (by omega) (by omega) (fun z91 hz91 => ?_)
              clear hz90
              refine mz_ld152 (by decide +kernel) hc hI hz91 (by omega) (by omega) (fun v92 ev92 => ?_)
              clear hz91
              refine pe_iret (by decide +kernel) rfl rfl ⟨rfl, rfl, ?_⟩
              show pmE pg X pg_tyl pg_cl (d + 4) 230 90 [.ref 147, .int x1, .int x2, .int v1, .int v3, .int v70, .int v72] [.int v92] (md wc f A) _
              refine pe_iload (j := 6) (by decide +kernel) rfl ?_
              have lw94 := zi_lo v92
              have uw94 := zi_hi v92
              have lw95 := zi_lo v72
              have uw95 := zi_hi v72
              refine pz_icmp_ge (off := 5) (t := 97) (by decide +kernel) (by decide) rfl rfl rfl (fun h93 => ?_) (fun h93 => ?_)
              · skip
                refine pe_aload_n (j := 0) (by decide +kernel) rfl ?_
                refine pe_get (j := 23) (ci := 12) (n := 12) (by decide +kernel) (by decide +kernel) (md_o hc) rfl ?_
                refine pe_bipushv (n := 9) (v := 9) (by decide +kernel) (by decide +kernel) ?_
                refine pe_iload (j := 4) (by decide +kernel) rfl ?_
                refine pz_mul (by decide +kernel) kz_9 rfl (by omega) (by omega) (fun z96 hz96 => ?_)
                refine pe_iload (j := 5) (by decide +kernel) rfl ?_
                refine pz_add (by decide +kernel) hz96 rfl (by omega) (by omega) (fun z97 hz97 => ?_)
                clear hz96
                refine pe_dup2 (by decide +kernel) ⟨rfl, rfl⟩ ?_
                refine mz_ld152 (by decide +kernel) hc hI hz97 (by omega) (by omega) (fun v98 ev98 => ?_)
                rw [ev98.trans ev92.symm]
                clear ev98 v98
                refine pe_iload_n (j := 3) (by decide +kernel) rfl ?_
                refine pz_if_ne (off := 8) (t := 120) (by decide +kernel) (by decide) rfl rfl (fun h99 => ?_) (fun h99 => by omega)
                refine pe_iload (j := 6) (by decide +kernel) rfl ?_
                refine pw_neg (by decide +kernel) (fun z100 => ?_)
                refine pw_add (by decide +kernel) (fun z101 => ?_)
                refine mz_st152 (by decide +kernel) hc hI hz97 (by omega) (by omega) (fun A102 eA102 hIA102 => ?_)
                refine pe_iconstv (n := 1) (v := 1) (by decide +kernel) (by decide +kernel) ?_
                exact pe_iret (by decide +kernel) rfl rfl ⟨f, A102, 1, rfl, hIA102, (fun k n14 n15 => rfl), (fun k n152 n153 => upa_fr eA102 n152), (by omega), Or.inr (⟨rfl, trivial⟩)⟩
              · skip
                refine pe_iconstv (n := 0) (v := 0) (by decide +kernel) (by decide +kernel) ?_
                exact pe_iret (by decide +kernel) rfl rfl ⟨f, A, 0, rfl, hI, (fun k n14 n15 => rfl), (fun k n152 n153 => rfl), (by omega), Or.inl ⟨rfl, trivial⟩⟩
