set_option maxRecDepth 100000 in
set_option maxHeartbeats 8000000 in
theorem NM_230 {X : pm_X} {d : Nat} {wc : pm_W} {f : Nat → Int32} {A : Nat → List Int32} {x1 x2 : Int32} (hc : wc.length = 147) (hI : MI f A) (gx1 : (610 ≤ x1.toInt ∧ x1.toInt ≤ 742 ∧ (x1.toInt - 610) % 132 = 0)) (gx2 : (875 ≤ x2.toInt ∧ x2.toInt ≤ 1680)) (hp14 : (0 ≤ (f 14).toInt ∧ (f 14).toInt ≤ 29)) (hpp0 : N0 (A 152)) (hpp1 : RG (A 153) (f 14).toInt) (hpp2 : ∃ a b : Int, x2.toInt = 875 + 272 * a + 9 * b ∧ (0 ≤ a ∧ a ≤ 2) ∧ 0 ≤ b ∧ b ≤ 29) : pmE pg X pg_tyl pg_cl (d + 4) 230 0 (pm_ent (pm_max pg 230) [.ref 147, .int x1, .int x2]) [] (md wc f A) (fun q => ∃ (f' : Nat → Int32) (A' : Nat → List Int32) (r : Int32), q = (some (.int r), md wc f' A', 0, 0) ∧ MI f' A' ∧ (∀ k : Nat, k ≠ 14 → k ≠ 15 → f' k = f k) ∧ (∀ k : Nat, k ≠ 152 → k ≠ 153 → A' k = A k) ∧ ((f' 14).toInt + (-1) * (f 14).toInt + (-1)) ≤ 0 ∧ ((r = 0 ∧ DI (A' 152) (A 152) (fr (A 148) x1.toInt) 594 ∧ RG (A' 153) (f' 14).toInt ∧ True) ∨ (r = 1 ∧ DI (A' 152) (A 152) (fr (A 148) x1.toInt) 594 ∧ RG (A' 153) (f' 14).toInt ∧ True))) := by
  show pmE pg X pg_tyl pg_cl (d + 4) 230 0 [.ref 147, .int x1, .int x2, pm_dead, pm_dead, pm_dead, pm_dead] [] (md wc f A) _
  refine pe_aload_n (j := 0) (by decide +kernel) rfl ?_
  refine pe_get (j := 7) (ci := 12) (n := 0) (by decide +kernel) (by decide +kernel) (md_o hc) rfl ?_
  refine pe_iload_n (j := 2) (by decide +kernel) rfl ?_
  refine pz_iald (by decide +kernel) (md_a148 hc) (mlen_148 hI) rfl (by omega) (by omega) (fun v1 ev1 => ?_)
  refine pe_istore_n (j := 3) (ls' := [.ref 147, .int x1, .int x2, .int v1, pm_dead, pm_dead, pm_dead]) (by decide +kernel) (Nat.le_of_ble_eq_true rfl) rfl ?_
  refine pe_aload_n (j := 0) (by decide +kernel) rfl ?_
  refine pe_get (j := 7) (ci := 12) (n := 0) (by decide +kernel) (by decide +kernel) (md_o hc) rfl ?_
  refine pe_iload_n (j := 2) (by decide +kernel) rfl ?_
  refine pe_iconstv (n := 1) (v := 1) (by decide +kernel) (by decide +kernel) ?_
  refine pz_add (by decide +kernel) rfl kz_1 (by omega) (by omega) (fun z2 hz2 => ?_)
  refine pz_iald (by decide +kernel) (md_a148 hc) (mlen_148 hI) hz2 (by omega) (by omega) (fun v3 ev3 => ?_)
  clear hz2
  refine pe_istore (j := 4) (ls' := [.ref 147, .int x1, .int x2, .int v1, .int v3, pm_dead, pm_dead]) (by decide +kernel) (Nat.le_of_ble_eq_true rfl) rfl ?_
  refine pe_iload_n (j := 3) (by decide +kernel) rfl ?_
  have lw5 := zi_lo v1
  have uw5 := zi_hi v1
  refine pz_if_eq (off := 8) (t := 26) (by decide +kernel) (by decide) rfl rfl (fun h4 => ?_) (fun h4 => ?_)
  · skip
    refine pe_aload_n (j := 0) (by decide +kernel) rfl ?_
    refine pe_get (j := 7) (ci := 12) (n := 0) (by decide +kernel) (by decide +kernel) (md_o hc) rfl ?_
    refine pe_iload_n (j := 2) (by decide +kernel) rfl ?_
    refine pe_iconstv (n := 2) (v := 2) (by decide +kernel) (by decide +kernel) ?_
    refine pz_add (by decide +kernel) rfl kz_2 (by omega) (by omega) (fun z6 hz6 => ?_)
    refine pz_iald (by decide +kernel) (md_a148 hc) (mlen_148 hI) hz6 (by omega) (by omega) (fun v7 ev7 => ?_)
    clear hz6
    refine pe_istore (j := 5) (ls' := [.ref 147, .int x1, .int x2, .int v1, .int v3, .int v7, pm_dead]) (by decide +kernel) (Nat.le_of_ble_eq_true rfl) rfl ?_
    refine pe_aload_n (j := 0) (by decide +kernel) rfl ?_
    refine pe_get (j := 7) (ci := 12) (n := 0) (by decide +kernel) (by decide +kernel) (md_o hc) rfl ?_
    refine pe_iload_n (j := 2) (by decide +kernel) rfl ?_
    refine pe_iconstv (n := 3) (v := 3) (by decide +kernel) (by decide +kernel) ?_
    refine pz_add (by decide +kernel) rfl kz_3 (by omega) (by omega) (fun z8 hz8 => ?_)
    refine pz_iald (by decide +kernel) (md_a148 hc) (mlen_148 hI) hz8 (by omega) (by omega) (fun v9 ev9 => ?_)
    clear hz8
    refine pe_istore (j := 6) (ls' := [.ref 147, .int x1, .int x2, .int v1, .int v3, .int v7, .int v9]) (by decide +kernel) (Nat.le_of_ble_eq_true rfl) rfl ?_
    have hmo := mi_rowO hI (i := x2.toInt) hpp2 ev1 ev9 (by omega)
    refine pe_aload_n (j := 0) (by decide +kernel) rfl ?_
    refine pe_iload_n (j := 1) (by decide +kernel) rfl ?_
    refine pe_iload (j := 4) (by decide +kernel) rfl ?_
    refine pi_V (j := 166) (mj := 221) (by decide +kernel) (cll_V (args := [.int v3, .int x1]) (n := 2) (by decide +kernel) rfl rfl (md_o hc) (by decide +kernel) (Nat.le_of_ble_eq_true rfl) (Nat.le_of_ble_eq_true rfl)) ?_
    show pmE pg X pg_tyl pg_cl (d + 3) 221 0 [.ref 147, .int x1, .int v3] [] (md wc f A) _
    refine pe_iload_n (j := 2) (by decide +kernel) rfl ?_
    refine pe_iconstv (n := 0) (v := 0) (by decide +kernel) (by decide +kernel) ?_
    refine pe_aload_n (j := 0) (by decide +kernel) rfl ?_
    refine pe_get (j := 7) (ci := 12) (n := 0) (by decide +kernel) (by decide +kernel) (md_o hc) rfl ?_
    refine pe_iload_n (j := 1) (by decide +kernel) rfl ?_
    refine pz_iald (by decide +kernel) (md_a148 hc) (mlen_148 hI) rfl (by omega) (by omega) (fun v10 ev10 => ?_)
    have rv10 : 0 ≤ v10.toInt ∧ v10.toInt ≤ 9 := MT_people (mt_148 hI ev10 (by omega)) (by omega)
    refine pe_iconstv (n := 1) (v := 1) (by decide +kernel) (by decide +kernel) ?_
    refine pz_sub (by decide +kernel) rfl kz_1 (by omega) (by omega) (fun z11 hz11 => ?_)
    refine pi_S (j := 119) (mj := 199) (by decide +kernel) (by decide +kernel) rfl ?_
    show pmE pg X pg_tyl pg_cl (d + 2) 199 0 [.int v3, .int 0, .int z11] [] (md wc f A) _
    refine pe_iload_n (j := 0) (by decide +kernel) rfl ?_
    refine pe_iload_n (j := 1) (by decide +kernel) rfl ?_
    have lw13 := zi_lo v3
    have uw13 := zi_hi v3
    refine pz_icmp_lt (off := 12) (t := 14) (by decide +kernel) (by decide) rfl rfl kz_0 (fun h12 => ?_) (fun h12 => ?_)
    · skip
      refine pe_iconstv (n := 0) (v := 0) (by decide +kernel) (by decide +kernel) ?_
      refine pe_iret (by decide +kernel) rfl rfl ⟨rfl, rfl, ?_⟩
      show pmE pg X pg_tyl pg_cl (d + 3) 221 13 [.ref 147, .int x1, .int v3] [.int 0] (md wc f A) _
      refine pe_iret (by decide +kernel) rfl rfl ⟨rfl, rfl, ?_⟩
      show pmE pg X pg_tyl pg_cl (d + 4) 230 53 [.ref 147, .int x1, .int x2, .int v1, .int v3, .int v7, .int v9] [.int 0] (md wc f A) _
      refine pz_if_eq (off := 42) (t := 95) (by decide +kernel) (by decide) rfl kz_0 (fun h14 => ?_) (fun h14 => by omega)
      refine pe_iconstv (n := 0) (v := 0) (by decide +kernel) (by decide +kernel) ?_
      exact pe_iret (by decide +kernel) rfl rfl ⟨f, A, 0, rfl, hI, (fun k n14 n15 => rfl), (fun k n152 n153 => rfl), (by omega), Or.inl ⟨rfl, (DI_refl hpp0 (by decide)), hpp1, trivial⟩⟩
    · skip
      refine pe_iload_n (j := 0) (by decide +kernel) rfl ?_
      refine pe_iload_n (j := 2) (by decide +kernel) rfl ?_
      refine pz_icmp_gt (off := 7) (t := 14) (by decide +kernel) (by decide) rfl rfl hz11 (fun h15 => ?_) (fun h15 => ?_)
      · skip
        refine pe_iconstv (n := 0) (v := 0) (by decide +kernel) (by decide +kernel) ?_
        refine pe_iret (by decide +kernel) rfl rfl ⟨rfl, rfl, ?_⟩
        show pmE pg X pg_tyl pg_cl (d + 3) 221 13 [.ref 147, .int x1, .int v3] [.int 0] (md wc f A) _
        refine pe_iret (by decide +kernel) rfl rfl ⟨rfl, rfl, ?_⟩
        show pmE pg X pg_tyl pg_cl (d + 4) 230 53 [.ref 147, .int x1, .int x2, .int v1, .int v3, .int v7, .int v9] [.int 0] (md wc f A) _
        refine pz_if_eq (off := 42) (t := 95) (by decide +kernel) (by decide) rfl kz_0 (fun h16 => ?_) (fun h16 => by omega)
        refine pe_iconstv (n := 0) (v := 0) (by decide +kernel) (by decide +kernel) ?_
        exact pe_iret (by decide +kernel) rfl rfl ⟨f, A, 0, rfl, hI, (fun k n14 n15 => rfl), (fun k n152 n153 => rfl), (by omega), Or.inl ⟨rfl, (DI_refl hpp0 (by decide)), hpp1, trivial⟩⟩
      · skip
        refine pe_iconstv (n := 1) (v := 1) (by decide +kernel) (by decide +kernel) ?_
        refine pe_goto (off := 4) (t := 15) (by decide +kernel) (by decide) rfl ?_
        refine pe_iret (by decide +kernel) rfl rfl ⟨rfl, rfl, ?_⟩
        show pmE pg X pg_tyl pg_cl (d + 3) 221 13 [.ref 147, .int x1, .int v3] [.int 1] (md wc f A) _
        refine pe_iret (by decide +kernel) rfl rfl ⟨rfl, rfl, ?_⟩
        show pmE pg X pg_tyl pg_cl (d + 4) 230 53 [.ref 147, .int x1, .int x2, .int v1, .int v3, .int v7, .int v9] [.int 1] (md wc f A) _
        refine pz_if_eq (off := 42) (t := 95) (by decide +kernel) (by decide) rfl kz_1 (fun h17 => by omega) (fun h17 => ?_)
        refine pe_aload_n (j := 0) (by decide +kernel) rfl ?_
        refine pe_iload_n (j := 1) (by decide +kernel) rfl ?_
        refine pe_iload (j := 5) (by decide +kernel) rfl ?_
        refine pi_V (j := 166) (mj := 221) (by decide +kernel) (cll_V (args := [.int v7, .int x1]) (n := 2) (by decide +kernel) rfl rfl (md_o hc) (by decide +kernel) (Nat.le_of_ble_eq_true rfl) (Nat.le_of_ble_eq_true rfl)) ?_
        show pmE pg X pg_tyl pg_cl (d + 3) 221 0 [.ref 147, .int x1, .int v7] [] (md wc f A) _
        refine pe_iload_n (j := 2) (by decide +kernel) rfl ?_
        refine pe_iconstv (n := 0) (v := 0) (by decide +kernel) (by decide +kernel) ?_
        refine pe_aload_n (j := 0) (by decide +kernel) rfl ?_
        refine pe_get (j := 7) (ci := 12) (n := 0) (by decide +kernel) (by decide +kernel) (md_o hc) rfl ?_
        refine pe_iload_n (j := 1) (by decide +kernel) rfl ?_
        refine pz_iald (by decide +kernel) (md_a148 hc) (mlen_148 hI) rfl (by omega) (by omega) (fun v18 ev18 => ?_)
        rw [ev18.trans ev10.symm]
        clear ev18 v18
        refine pe_iconstv (n := 1) (v := 1) (by decide +kernel) (by decide +kernel) ?_
        refine pz_sub (by decide +kernel) rfl kz_1 (by omega) (by omega) (fun z19 hz19 => ?_)
        refine pi_S (j := 119) (mj := 199) (by decide +kernel) (by decide +kernel) rfl ?_
        show pmE pg X pg_tyl pg_cl (d + 2) 199 0 [.int v7, .int 0, .int z19] [] (md wc f A) _
        refine pe_iload_n (j := 0) (by decide +kernel) rfl ?_
        refine pe_iload_n (j := 1) (by decide +kernel) rfl ?_
        have lw21 := zi_lo v7
        have uw21 := zi_hi v7
        refine pz_icmp_lt (off := 12) (t := 14) (by decide +kernel) (by decide) rfl rfl kz_0 (fun h20 => ?_) (fun h20 => ?_)
        · skip
          refine pe_iconstv (n := 0) (v := 0) (by decide +kernel) (by decide +kernel) ?_
          refine pe_iret (by decide +kernel) rfl rfl ⟨rfl, rfl, ?_⟩
          show pmE pg X pg_tyl pg_cl (d + 3) 221 13 [.ref 147, .int x1, .int v7] [.int 0] (md wc f A) _
          refine pe_iret (by decide +kernel) rfl rfl ⟨rfl, rfl, ?_⟩
          show pmE pg X pg_tyl pg_cl (d + 4) 230 63 [.ref 147, .int x1, .int x2, .int v1, .int v3, .int v7, .int v9] [.int 0] (md wc f A) _
          refine pz_if_eq (off := 32) (t := 95) (by decide +kernel) (by decide) rfl kz_0 (fun h22 => ?_) (fun h22 => by omega)
          refine pe_iconstv (n := 0) (v := 0) (by decide +kernel) (by decide +kernel) ?_
          exact pe_iret (by decide +kernel) rfl rfl ⟨f, A, 0, rfl, hI, (fun k n14 n15 => rfl), (fun k n152 n153 => rfl), (by omega), Or.inl ⟨rfl, (DI_refl hpp0 (by decide)), hpp1, trivial⟩⟩
        · skip
          refine pe_iload_n (j := 0) (by decide +kernel) rfl ?_
          refine pe_iload_n (j := 2) (by decide +kernel) rfl ?_
          refine pz_icmp_gt (off := 7) (t := 14) (by decide +kernel) (by decide) rfl rfl hz19 (fun h23 => ?_) (fun h23 => ?_)
          · skip
            refine pe_iconstv (n := 0) (v := 0) (by decide +kernel) (by decide +kernel) ?_
            refine pe_iret (by decide +kernel) rfl rfl ⟨rfl, rfl, ?_⟩
            show pmE pg X pg_tyl pg_cl (d + 3) 221 13 [.ref 147, .int x1, .int v7] [.int 0] (md wc f A) _
            refine pe_iret (by decide +kernel) rfl rfl ⟨rfl, rfl, ?_⟩
            show pmE pg X pg_tyl pg_cl (d + 4) 230 63 [.ref 147, .int x1, .int x2, .int v1, .int v3, .int v7, .int v9] [.int 0] (md wc f A) _
            refine pz_if_eq (off := 32) (t := 95) (by decide +kernel) (by decide) rfl kz_0 (fun h24 => ?_) (fun h24 => by omega)
            refine pe_iconstv (n := 0) (v := 0) (by decide +kernel) (by decide +kernel) ?_
            exact pe_iret (by decide +kernel) rfl rfl ⟨f, A, 0, rfl, hI, (fun k n14 n15 => rfl), (fun k n152 n153 => rfl), (by omega), Or.inl ⟨rfl, (DI_refl hpp0 (by decide)), hpp1, trivial⟩⟩
          · skip
            refine pe_iconstv (n := 1) (v := 1) (by decide +kernel) (by decide +kernel) ?_
            refine pe_goto (off := 4) (t := 15) (by decide +kernel) (by decide) rfl ?_
            refine pe_iret (by decide +kernel) rfl rfl ⟨rfl, rfl, ?_⟩
            show pmE pg X pg_tyl pg_cl (d + 3) 221 13 [.ref 147, .int x1, .int v7] [.int 1] (md wc f A) _
            refine pe_iret (by decide +kernel) rfl rfl ⟨rfl, rfl, ?_⟩
            show pmE pg X pg_tyl pg_cl (d + 4) 230 63 [.ref 147, .int x1, .int x2, .int v1, .int v3, .int v7, .int v9] [.int 1] (md wc f A) _
            refine pz_if_eq (off := 32) (t := 95) (by decide +kernel) (by decide) rfl kz_1 (fun h25 => by omega) (fun h25 => ?_)
            refine pe_iload_n (j := 3) (by decide +kernel) rfl ?_
            refine pz_if_ne (off := 15) (t := 82) (by decide +kernel) (by decide) rfl rfl (fun h26 => by omega) (fun h26 => ?_)
            refine pe_aload_n (j := 0) (by decide +kernel) rfl ?_
            refine pe_iload_n (j := 1) (by decide +kernel) rfl ?_
            refine pe_iload (j := 4) (by decide +kernel) rfl ?_
            refine pe_iload (j := 5) (by decide +kernel) rfl ?_
            refine pz_callV (j := 199) (mj := 231) (by decide +kernel) (cll_V (args := [.int v7, .int v3, .int x1]) (n := 3) (by decide +kernel) rfl rfl (md_o hc) (by decide +kernel) (Nat.le_of_ble_eq_true rfl) (Nat.le_of_ble_eq_true rfl)) (MM_231 hc hI (by omega) (by omega) (by omega)) (fun q27a q27b q27c q27d hqq27 => ?_)
            obtain ⟨rq27, eq27, kq27⟩ := hqq27
            cases eq27
            refine ⟨rfl, rfl, ?_⟩
            show pmE pg X pg_tyl pg_cl (d + 4) 230 79 [.ref 147, .int x1, .int x2, .int v1, .int v3, .int v7, .int v9] [.int rq27] (md wc f A) _
            refine pe_goto (off := 11) (t := 90) (by decide +kernel) (by decide) rfl ?_
            refine pe_iload (j := 6) (by decide +kernel) rfl ?_
            have lw29 := zi_lo rq27
            have uw29 := zi_hi rq27
            refine pz_icmp_ge (off := 5) (t := 97) (by decide +kernel) (by decide) rfl rfl rfl (fun h28 => ?_) (fun h28 => ?_)
            · skip
              refine pe_aload_n (j := 0) (by decide +kernel) rfl ?_
              refine pe_get (j := 23) (ci := 12) (n := 12) (by decide +kernel) (by decide +kernel) (md_o hc) rfl ?_
              refine pe_bipushv (n := 9) (v := 9) (by decide +kernel) (by decide +kernel) ?_
              refine pe_iload (j := 4) (by decide +kernel) rfl ?_
              refine pz_mul (by decide +kernel) kz_9 rfl (by omega) (by omega) (fun z30 hz30 => ?_)
              refine pe_iload (j := 5) (by decide +kernel) rfl ?_
              refine pz_add (by decide +kernel) hz30 rfl (by omega) (by omega) (fun z31 hz31 => ?_)
              clear hz30
              refine pe_dup2 (by decide +kernel) ⟨rfl, rfl⟩ ?_
              refine pz_iald (by decide +kernel) (md_a152 hc) (mlen_152 hI) hz31 (by omega) (by omega) (fun v32 ev32 => ?_)
              have hb33 := hpp0 (((9 * v3.toInt) + v7.toInt)) (by omega) (by omega)
              rw [(show fr (A 152) (((9 * v3.toInt) + v7.toInt)) = v32.toInt from congrArg Int32.toInt ev32.symm)] at hb33
              refine pe_iload_n (j := 3) (by decide +kernel) rfl ?_
              refine pz_if_ne (off := 8) (t := 120) (by decide +kernel) (by decide) rfl rfl (fun h34 => by omega) (fun h34 => ?_)
              refine pe_iload (j := 6) (by decide +kernel) rfl ?_
              refine pe_goto (off := 6) (t := 123) (by decide +kernel) (by decide) rfl ?_
              refine pz_add (by decide +kernel) rfl rfl (by omega) (by omega) (fun z35 hz35 => ?_)
              refine mz_st152 (by decide +kernel) hc hI hz31 (by omega) (by omega) (fun A36 eA36 hIA36 => ?_)
              refine pe_iconstv (n := 1) (v := 1) (by decide +kernel) (by decide +kernel) ?_
              exact pe_iret (by decide +kernel) rfl rfl ⟨f, A36, 1, rfl, hIA36, (fun k n14 n15 => rfl), (fun k n152 n153 => upa_fr eA36 n152), (by omega), Or.inr (⟨rfl, (by rw [upa_at eA36, (show fr (A 148) (x1.toInt) = v10.toInt from congrArg Int32.toInt ev10.symm)]; exact DI_up (DI_set (i := ((9 * v3.toInt) + v7.toInt)) (n := 99) (DI_refl (m := 0) hpp0 (by decide)) (by omega) (by omega) (mlen_152 hI) (by omega) (by rw [(show fr (A 152) (((9 * v3.toInt) + v7.toInt)) = v32.toInt from congrArg Int32.toInt ev32.symm)]; omega) (by decide) (fun h => absurd h (by omega))) (by decide)), (by rw [upa_fr eA36 (by decide : (153 : Nat) ≠ 152)]; exact hpp1), trivial⟩)⟩
            · skip
              refine pe_iconstv (n := 0) (v := 0) (by decide +kernel) (by decide +kernel) ?_
              exact pe_iret (by decide +kernel) rfl rfl ⟨f, A, 0, rfl, hI, (fun k n14 n15 => rfl), (fun k n152 n153 => rfl), (by omega), Or.inl ⟨rfl, (DI_refl hpp0 (by decide)), hpp1, trivial⟩⟩
  · skip
    refine pe_iload_n (j := 3) (by decide +kernel) rfl ?_
    refine pe_iconstv (n := 1) (v := 1) (by decide +kernel) (by decide +kernel) ?_
    refine pz_icmp_ne (off := 104) (t := 127) (by decide +kernel) (by decide) rfl rfl kz_1 (fun h37 => ?_) (fun h37 => ?_)
    · skip
      refine pe_iload_n (j := 3) (by decide +kernel) rfl ?_
      refine pe_iconstv (n := 2) (v := 2) (by decide +kernel) (by decide +kernel) ?_
      refine pz_icmp_ne (off := 10) (t := 139) (by decide +kernel) (by decide) rfl rfl kz_2 (fun h38 => ?_) (fun h38 => ?_)
      · skip
        refine pe_iload_n (j := 3) (by decide +kernel) rfl ?_
        refine pe_iconstv (n := 3) (v := 3) (by decide +kernel) (by decide +kernel) ?_
        refine pz_icmp_ne (off := 32) (t := 173) (by decide +kernel) (by decide) rfl rfl kz_3 (fun h39 => ?_) (fun h39 => ?_)
        · skip
          refine pe_iload_n (j := 3) (by decide +kernel) rfl ?_
          refine pe_iconstv (n := 4) (v := 4) (by decide +kernel) (by decide +kernel) ?_
          refine pz_icmp_ne (off := 24) (t := 199) (by decide +kernel) (by decide) rfl rfl kz_4 (fun h40 => ?_) (fun h40 => ?_)
          · skip
            refine pe_aload_n (j := 0) (by decide +kernel) rfl ?_
            refine pz_callV (j := 208) (mj := 240) (by decide +kernel) (cll_V (args := []) (n := 0) (by decide +kernel) rfl rfl (md_o hc) (by decide +kernel) (Nat.le_of_ble_eq_true rfl) (Nat.le_of_ble_eq_true rfl)) (NM_240 hc hI hpp0 hpp1) (fun q41a q41b q41c q41d hqq41 => ?_)
            obtain ⟨f42, A43, eq41, hIq41, hGq41, hFq41, kq41⟩ := hqq41
            cases eq41
            refine ⟨rfl, rfl, ?_⟩
            obtain ⟨hp44, hp45, kq41⟩ := kq41
            show pmE pg X pg_tyl pg_cl (d + 4) 230 203 [.ref 147, .int x1, .int x2, .int v1, .int v3, pm_dead, pm_dead] [] (md wc f42 A43) _
            refine pe_iconstv (n := 1) (v := 1) (by decide +kernel) (by decide +kernel) ?_
            have hx46 : (f42 14).toInt = (f 14).toInt := (congrArg Int32.toInt (show f42 14 = (f 14) from (hGq41 14 (by decide)))).trans rfl
            exact pe_iret (by decide +kernel) rfl rfl ⟨f42, A43, 1, rfl, hIq41, (fun k n14 n15 => (hGq41 k n15)), (fun k n152 n153 => (hFq41 k n152 n153)), (by omega), Or.inr (⟨rfl, (DI_w hp44 (by first | exact Int.le_refl _ | exact (mpeo hI (by omega)).1) (by decide)), (by rw [show f42 14 = f 14 from (hGq41 14 (by decide))]; exact RG_re hpp1 hp45), trivial⟩)⟩
          · skip
            refine pe_aload_n (j := 0) (by decide +kernel) rfl ?_
            refine pe_iload_n (j := 1) (by decide +kernel) rfl ?_
            refine pe_iload (j := 4) (by decide +kernel) rfl ?_
            refine pi_V (j := 166) (mj := 221) (by decide +kernel) (cll_V (args := [.int v3, .int x1]) (n := 2) (by decide +kernel) rfl rfl (md_o hc) (by decide +kernel) (Nat.le_of_ble_eq_true rfl) (Nat.le_of_ble_eq_true rfl)) ?_
            show pmE pg X pg_tyl pg_cl (d + 3) 221 0 [.ref 147, .int x1, .int v3] [] (md wc f A) _
            refine pe_iload_n (j := 2) (by decide +kernel) rfl ?_
            refine pe_iconstv (n := 0) (v := 0) (by decide +kernel) (by decide +kernel) ?_
            refine pe_aload_n (j := 0) (by decide +kernel) rfl ?_
            refine pe_get (j := 7) (ci := 12) (n := 0) (by decide +kernel) (by decide +kernel) (md_o hc) rfl ?_
            refine pe_iload_n (j := 1) (by decide +kernel) rfl ?_
            refine pz_iald (by decide +kernel) (md_a148 hc) (mlen_148 hI) rfl (by omega) (by omega) (fun v47 ev47 => ?_)
            have rv47 : 0 ≤ v47.toInt ∧ v47.toInt ≤ 9 := MT_people (mt_148 hI ev47 (by omega)) (by omega)
            refine pe_iconstv (n := 1) (v := 1) (by decide +kernel) (by decide +kernel) ?_
            refine pz_sub (by decide +kernel) rfl kz_1 (by omega) (by omega) (fun z48 hz48 => ?_)
            refine pi_S (j := 119) (mj := 199) (by decide +kernel) (by decide +kernel) rfl ?_
            show pmE pg X pg_tyl pg_cl (d + 2) 199 0 [.int v3, .int 0, .int z48] [] (md wc f A) _
            refine pe_iload_n (j := 0) (by decide +kernel) rfl ?_
            refine pe_iload_n (j := 1) (by decide +kernel) rfl ?_
            have lw50 := zi_lo v3
            have uw50 := zi_hi v3
            refine pz_icmp_lt (off := 12) (t := 14) (by decide +kernel) (by decide) rfl rfl kz_0 (fun h49 => ?_) (fun h49 => ?_)
            · skip
              refine pe_iconstv (n := 0) (v := 0) (by decide +kernel) (by decide +kernel) ?_
              refine pe_iret (by decide +kernel) rfl rfl ⟨rfl, rfl, ?_⟩
              show pmE pg X pg_tyl pg_cl (d + 3) 221 13 [.ref 147, .int x1, .int v3] [.int 0] (md wc f A) _
              refine pe_iret (by decide +kernel) rfl rfl ⟨rfl, rfl, ?_⟩
              show pmE pg X pg_tyl pg_cl (d + 4) 230 185 [.ref 147, .int x1, .int x2, .int v1, .int v3, pm_dead, pm_dead] [.int 0] (md wc f A) _
              refine pz_if_ne (off := 5) (t := 190) (by decide +kernel) (by decide) rfl kz_0 (fun h51 => by omega) (fun h51 => ?_)
              refine pe_iconstv (n := 0) (v := 0) (by decide +kernel) (by decide +kernel) ?_
              exact pe_iret (by decide +kernel) rfl rfl ⟨f, A, 0, rfl, hI, (fun k n14 n15 => rfl), (fun k n152 n153 => rfl), (by omega), Or.inl ⟨rfl, (DI_refl hpp0 (by decide)), hpp1, trivial⟩⟩
            · skip
              refine pe_iload_n (j := 0) (by decide +kernel) rfl ?_
              refine pe_iload_n (j := 2) (by decide +kernel) rfl ?_
              refine pz_icmp_gt (off := 7) (t := 14) (by decide +kernel) (by decide) rfl rfl hz48 (fun h52 => ?_) (fun h52 => ?_)
              · skip
                refine pe_iconstv (n := 0) (v := 0) (by decide +kernel) (by decide +kernel) ?_
                refine pe_iret (by decide +kernel) rfl rfl ⟨rfl, rfl, ?_⟩
                show pmE pg X pg_tyl pg_cl (d + 3) 221 13 [.ref 147, .int x1, .int v3] [.int 0] (md wc f A) _
                refine pe_iret (by decide +kernel) rfl rfl ⟨rfl, rfl, ?_⟩
                show pmE pg X pg_tyl pg_cl (d + 4) 230 185 [.ref 147, .int x1, .int x2, .int v1, .int v3, pm_dead, pm_dead] [.int 0] (md wc f A) _
                refine pz_if_ne (off := 5) (t := 190) (by decide +kernel) (by decide) rfl kz_0 (fun h53 => by omega) (fun h53 => ?_)
                refine pe_iconstv (n := 0) (v := 0) (by decide +kernel) (by decide +kernel) ?_
                exact pe_iret (by decide +kernel) rfl rfl ⟨f, A, 0, rfl, hI, (fun k n14 n15 => rfl), (fun k n152 n153 => rfl), (by omega), Or.inl ⟨rfl, (DI_refl hpp0 (by decide)), hpp1, trivial⟩⟩
              · skip
                refine pe_iconstv (n := 1) (v := 1) (by decide +kernel) (by decide +kernel) ?_
                refine pe_goto (off := 4) (t := 15) (by decide +kernel) (by decide) rfl ?_
                refine pe_iret (by decide +kernel) rfl rfl ⟨rfl, rfl, ?_⟩
                show pmE pg X pg_tyl pg_cl (d + 3) 221 13 [.ref 147, .int x1, .int v3] [.int 1] (md wc f A) _
                refine pe_iret (by decide +kernel) rfl rfl ⟨rfl, rfl, ?_⟩
                show pmE pg X pg_tyl pg_cl (d + 4) 230 185 [.ref 147, .int x1, .int x2, .int v1, .int v3, pm_dead, pm_dead] [.int 1] (md wc f A) _
                refine pz_if_ne (off := 5) (t := 190) (by decide +kernel) (by decide) rfl kz_1 (fun h54 => ?_) (fun h54 => by omega)
                refine pe_aload_n (j := 0) (by decide +kernel) rfl ?_
                refine pe_iload (j := 4) (by decide +kernel) rfl ?_
                refine pz_callV (j := 205) (mj := 238) (by decide +kernel) (cll_V (args := [.int v3]) (n := 1) (by decide +kernel) rfl rfl (md_o hc) (by decide +kernel) (Nat.le_of_ble_eq_true rfl) (Nat.le_of_ble_eq_true rfl)) (NM_238 hc hI (by omega) hpp0 hpp1) (fun q55a q55b q55c q55d hqq55 => ?_)
                obtain ⟨A56, eq55, hIq55, hFq55, kq55⟩ := hqq55
                cases eq55
                refine ⟨rfl, rfl, ?_⟩
                obtain ⟨hp57, hp58, kq55⟩ := kq55
                show pmE pg X pg_tyl pg_cl (d + 4) 230 196 [.ref 147, .int x1, .int x2, .int v1, .int v3, pm_dead, pm_dead] [] (md wc f A56) _
                refine pe_goto (off := 7) (t := 203) (by decide +kernel) (by decide) rfl ?_
                refine pe_iconstv (n := 1) (v := 1) (by decide +kernel) (by decide +kernel) ?_
                exact pe_iret (by decide +kernel) rfl rfl ⟨f, A56, 1, rfl, hIq55, (fun k n14 n15 => rfl), (fun k n152 n153 => (hFq55 k n152 n153)), (by omega), Or.inr (⟨rfl, (DI_w hp57 (by first | exact Int.le_refl _ | exact (mpeo hI (by omega)).1) (by decide)), (RG_re hpp1 hp58), trivial⟩)⟩
        · skip
          have hst := mi_row hI (i := x2.toInt) hpp2 ev1 ev3 (by omega)
          refine pe_iload (j := 4) (by decide +kernel) rfl ?_
          refine pe_aload_n (j := 0) (by decide +kernel) rfl ?_
          refine pe_get (j := 175) (ci := 12) (n := 14) (by decide +kernel) (by decide +kernel) (md_o hc) rfl ?_
          have lw60 := zi_lo v3
          have uw60 := zi_hi v3
          refine pz_icmp_ge (off := 12) (t := 162) (by decide +kernel) (by decide) rfl rfl rfl (fun h59 => ?_) (fun h59 => ?_)
          · skip
            refine pe_iconstv (n := 0) (v := 0) (by decide +kernel) (by decide +kernel) ?_
            exact pe_iret (by decide +kernel) rfl rfl ⟨f, A, 0, rfl, hI, (fun k n14 n15 => rfl), (fun k n152 n153 => rfl), (by omega), Or.inl ⟨rfl, (DI_refl hpp0 (by decide)), hpp1, trivial⟩⟩
          · skip
            refine pe_aload_n (j := 0) (by decide +kernel) rfl ?_
            refine pe_iload (j := 4) (by decide +kernel) rfl ?_
            refine pi_V (j := 190) (mj := 236) (by decide +kernel) (cll_V (args := [.int v3]) (n := 1) (by decide +kernel) rfl rfl (md_o hc) (by decide +kernel) (Nat.le_of_ble_eq_true rfl) (Nat.le_of_ble_eq_true rfl)) ?_
            show pmE pg X pg_tyl pg_cl (d + 3) 236 0 [.ref 147, .int v3] [] (md wc f A) _
            refine pe_aload_n (j := 0) (by decide +kernel) rfl ?_
            refine pe_get (j := 26) (ci := 12) (n := 13) (by decide +kernel) (by decide +kernel) (md_o hc) rfl ?_
            refine pe_bipushv (n := 10) (v := 10) (by decide +kernel) (by decide +kernel) ?_
            refine pe_iload_n (j := 1) (by decide +kernel) rfl ?_
            refine pz_mul (by decide +kernel) kz_10 rfl (by omega) (by omega) (fun z61 hz61 => ?_)
            refine pe_iconstv (n := 3) (v := 3) (by decide +kernel) (by decide +kernel) ?_
            refine pz_add (by decide +kernel) hz61 kz_3 (by omega) (by omega) (fun z62 hz62 => ?_)
            clear hz61
            refine pz_iald (by decide +kernel) (md_a153 hc) (mlen_153 hI) hz62 (by omega) (by omega) (fun v63 ev63 => ?_)
            clear hz62
            refine pe_iconstv (n := 1) (v := 1) (by decide +kernel) (by decide +kernel) ?_
            have lw65 := zi_lo v63
            have uw65 := zi_hi v63
            refine pz_icmp_ne (off := 7) (t := 19) (by decide +kernel) (by decide) rfl rfl kz_1 (fun h64 => ?_) (fun h64 => ?_)
            · skip
              refine pe_iconstv (n := 0) (v := 0) (by decide +kernel) (by decide +kernel) ?_
              refine pe_iret (by decide +kernel) rfl rfl ⟨rfl, rfl, ?_⟩
              show pmE pg X pg_tyl pg_cl (d + 4) 230 159 [.ref 147, .int x1, .int x2, .int v1, .int v3, pm_dead, pm_dead] [.int 0] (md wc f A) _
              refine pz_if_ne (off := 5) (t := 164) (by decide +kernel) (by decide) rfl kz_0 (fun h66 => by omega) (fun h66 => ?_)
              refine pe_iconstv (n := 0) (v := 0) (by decide +kernel) (by decide +kernel) ?_
              exact pe_iret (by decide +kernel) rfl rfl ⟨f, A, 0, rfl, hI, (fun k n14 n15 => rfl), (fun k n152 n153 => rfl), (by omega), Or.inl ⟨rfl, (DI_refl hpp0 (by decide)), hpp1, trivial⟩⟩
            · skip
              refine pe_iconstv (n := 1) (v := 1) (by decide +kernel) (by decide +kernel) ?_
              refine pe_goto (off := 4) (t := 20) (by decide +kernel) (by decide) rfl ?_
              refine pe_iret (by decide +kernel) rfl rfl ⟨rfl, rfl, ?_⟩
              show pmE pg X pg_tyl pg_cl (d + 4) 230 159 [.ref 147, .int x1, .int x2, .int v1, .int v3, pm_dead, pm_dead] [.int 1] (md wc f A) _
              refine pz_if_ne (off := 5) (t := 164) (by decide +kernel) (by decide) rfl kz_1 (fun h67 => ?_) (fun h67 => by omega)
              refine pe_aload_n (j := 0) (by decide +kernel) rfl ?_
              refine pe_iload (j := 4) (by decide +kernel) rfl ?_
              refine pz_callV (j := 196) (mj := 237) (by decide +kernel) (cll_V (args := [.int v3]) (n := 1) (by decide +kernel) rfl rfl (md_o hc) (by decide +kernel) (Nat.le_of_ble_eq_true rfl) (Nat.le_of_ble_eq_true rfl)) (NM_237 hc hI (by omega) hpp0 (hpp1 v3.toInt (by omega) (by omega))) (fun q68a q68b q68c q68d hqq68 => ?_)
              obtain ⟨A69, eq68, hIq68, hFq68, kq68⟩ := hqq68
              cases eq68
              refine ⟨rfl, rfl, ?_⟩
              obtain ⟨hp70, hp71, kq68⟩ := kq68
              show pmE pg X pg_tyl pg_cl (d + 4) 230 170 [.ref 147, .int x1, .int x2, .int v1, .int v3, pm_dead, pm_dead] [] (md wc f A69) _
              refine pe_goto (off := 33) (t := 203) (by decide +kernel) (by decide) rfl ?_
              refine pe_iconstv (n := 1) (v := 1) (by decide +kernel) (by decide +kernel) ?_
              exact pe_iret (by decide +kernel) rfl rfl ⟨f, A69, 1, rfl, hIq68, (fun k n14 n15 => rfl), (fun k n152 n153 => (hFq68 k n152 n153)), (by omega), Or.inr (⟨rfl, (DI_w hp70 (by first | exact Int.le_refl _ | exact (mpeo hI (by omega)).1) (by decide)), (RG_re hpp1 hp71), trivial⟩)⟩
      · skip
        have hrr := mi_rowR hI (i := x2.toInt) hpp2 ev1 ev3 (by omega)
        refine pe_aload_n (j := 0) (by decide +kernel) rfl ?_
        refine pe_iload_n (j := 1) (by decide +kernel) rfl ?_
        refine pe_iload_n (j := 2) (by decide +kernel) rfl ?_
        refine pz_callV (j := 202) (mj := 233) (by decide +kernel) (cll_V (args := [.int x2, .int x1]) (n := 2) (by decide +kernel) rfl rfl (md_o hc) (by decide +kernel) (Nat.le_of_ble_eq_true rfl) (Nat.le_of_ble_eq_true rfl)) (NM_233 hc hI (by omega) (by omega) (by omega) hpp0 hpp1 (by rw [(show fr (A 148) ((x2.toInt + 1)) = v3.toInt from congrArg Int32.toInt ev3.symm)]; exact hrr)) (fun q72a q72b q72c q72d hqq72 => ?_)
        obtain ⟨f73, A74, rq72, eq72, hIq72, hGq72, hFq72, hX0q72, kq72⟩ := hqq72
        cases eq72
        refine ⟨rfl, rfl, ?_⟩
        have hr_f73_14 := mf_14 hIq72
        rcases kq72 with kq72 | kq72
        · skip
          obtain ⟨erq72, kq72⟩ := kq72
          subst erq72
          obtain ⟨hp75, hp76, kq72⟩ := kq72
          show pmE pg X pg_tyl pg_cl (d + 4) 230 138 [.ref 147, .int x1, .int x2, .int v1, .int v3, pm_dead, pm_dead] [.int 1] (md wc f73 A74) _
          exact pe_iret (by decide +kernel) rfl rfl ⟨f73, A74, 1, rfl, hIq72, (fun k n14 n15 => (hGq72 k n14)), (fun k n152 n153 => (hFq72 k n152 n153)), (by omega), Or.inr (⟨rfl, (DI_w hp75 (by first | exact Int.le_refl _ | exact (mpeo hI (by omega)).1) (by decide)), hp76, trivial⟩)⟩
        · skip
          obtain ⟨erq72, kq72⟩ := kq72
          subst erq72
          obtain ⟨hp77, hp78, kq72⟩ := kq72
          show pmE pg X pg_tyl pg_cl (d + 4) 230 138 [.ref 147, .int x1, .int x2, .int v1, .int v3, pm_dead, pm_dead] [.int 0] (md wc f73 A74) _
          exact pe_iret (by decide +kernel) rfl rfl ⟨f73, A74, 0, rfl, hIq72, (fun k n14 n15 => (hGq72 k n14)), (fun k n152 n153 => (hFq72 k n152 n153)), (by omega), Or.inl ⟨rfl, (DI_w hp77 (by first | exact Int.le_refl _ | exact (mpeo hI (by omega)).1) (by decide)), hp78, trivial⟩⟩
    · skip
      refine pe_aload_n (j := 0) (by decide +kernel) rfl ?_
      refine pe_get (j := 7) (ci := 12) (n := 0) (by decide +kernel) (by decide +kernel) (md_o hc) rfl ?_
      refine pe_iload_n (j := 2) (by decide +kernel) rfl ?_
      refine pe_iconstv (n := 2) (v := 2) (by decide +kernel) (by decide +kernel) ?_
      refine pz_add (by decide +kernel) rfl kz_2 (by omega) (by omega) (fun z79 hz79 => ?_)
      refine pz_iald (by decide +kernel) (md_a148 hc) (mlen_148 hI) hz79 (by omega) (by omega) (fun v80 ev80 => ?_)
      clear hz79
      refine pe_istore (j := 5) (ls' := [.ref 147, .int x1, .int x2, .int v1, .int v3, .int v80, pm_dead]) (by decide +kernel) (Nat.le_of_ble_eq_true rfl) rfl ?_
      refine pe_aload_n (j := 0) (by decide +kernel) rfl ?_
      refine pe_get (j := 7) (ci := 12) (n := 0) (by decide +kernel) (by decide +kernel) (md_o hc) rfl ?_
      refine pe_iload_n (j := 2) (by decide +kernel) rfl ?_
      refine pe_iconstv (n := 3) (v := 3) (by decide +kernel) (by decide +kernel) ?_
      refine pz_add (by decide +kernel) rfl kz_3 (by omega) (by omega) (fun z81 hz81 => ?_)
      refine pz_iald (by decide +kernel) (md_a148 hc) (mlen_148 hI) hz81 (by omega) (by omega) (fun v82 ev82 => ?_)
      clear hz81
      refine pe_istore (j := 6) (ls' := [.ref 147, .int x1, .int x2, .int v1, .int v3, .int v80, .int v82]) (by decide +kernel) (Nat.le_of_ble_eq_true rfl) rfl ?_
      have hmo := mi_rowO hI (i := x2.toInt) hpp2 ev1 ev82 (by omega)
      refine pe_aload_n (j := 0) (by decide +kernel) rfl ?_
      refine pe_iload_n (j := 1) (by decide +kernel) rfl ?_
      refine pe_iload (j := 4) (by decide +kernel) rfl ?_
      refine pi_V (j := 166) (mj := 221) (by decide +kernel) (cll_V (args := [.int v3, .int x1]) (n := 2) (by decide +kernel) rfl rfl (md_o hc) (by decide +kernel) (Nat.le_of_ble_eq_true rfl) (Nat.le_of_ble_eq_true rfl)) ?_
      show pmE pg X pg_tyl pg_cl (d + 3) 221 0 [.ref 147, .int x1, .int v3] [] (md wc f A) _
      refine pe_iload_n (j := 2) (by decide +kernel) rfl ?_
      refine pe_iconstv (n := 0) (v := 0) (by decide +kernel) (by decide +kernel) ?_
      refine pe_aload_n (j := 0) (by decide +kernel) rfl ?_
      refine pe_get (j := 7) (ci := 12) (n := 0) (by decide +kernel) (by decide +kernel) (md_o hc) rfl ?_
      refine pe_iload_n (j := 1) (by decide +kernel) rfl ?_
      refine pz_iald (by decide +kernel) (md_a148 hc) (mlen_148 hI) rfl (by omega) (by omega) (fun v83 ev83 => ?_)
      have rv83 : 0 ≤ v83.toInt ∧ v83.toInt ≤ 9 := MT_people (mt_148 hI ev83 (by omega)) (by omega)
      refine pe_iconstv (n := 1) (v := 1) (by decide +kernel) (by decide +kernel) ?_
      refine pz_sub (by decide +kernel) rfl kz_1 (by omega) (by omega) (fun z84 hz84 => ?_)
      refine pi_S (j := 119) (mj := 199) (by decide +kernel) (by decide +kernel) rfl ?_
      show pmE pg X pg_tyl pg_cl (d + 2) 199 0 [.int v3, .int 0, .int z84] [] (md wc f A) _
      refine pe_iload_n (j := 0) (by decide +kernel) rfl ?_
      refine pe_iload_n (j := 1) (by decide +kernel) rfl ?_
      have lw86 := zi_lo v3
      have uw86 := zi_hi v3
      refine pz_icmp_lt (off := 12) (t := 14) (by decide +kernel) (by decide) rfl rfl kz_0 (fun h85 => ?_) (fun h85 => ?_)
      · skip
        refine pe_iconstv (n := 0) (v := 0) (by decide +kernel) (by decide +kernel) ?_
        refine pe_iret (by decide +kernel) rfl rfl ⟨rfl, rfl, ?_⟩
        show pmE pg X pg_tyl pg_cl (d + 3) 221 13 [.ref 147, .int x1, .int v3] [.int 0] (md wc f A) _
        refine pe_iret (by decide +kernel) rfl rfl ⟨rfl, rfl, ?_⟩
        show pmE pg X pg_tyl pg_cl (d + 4) 230 53 [.ref 147, .int x1, .int x2, .int v1, .int v3, .int v80, .int v82] [.int 0] (md wc f A) _
        refine pz_if_eq (off := 42) (t := 95) (by decide +kernel) (by decide) rfl kz_0 (fun h87 => ?_) (fun h87 => by omega)
        refine pe_iconstv (n := 0) (v := 0) (by decide +kernel) (by decide +kernel) ?_
        exact pe_iret (by decide +kernel) rfl rfl ⟨f, A, 0, rfl, hI, (fun k n14 n15 => rfl), (fun k n152 n153 => rfl), (by omega), Or.inl ⟨rfl, (DI_refl hpp0 (by decide)), hpp1, trivial⟩⟩
      · skip
        refine pe_iload_n (j := 0) (by decide +kernel) rfl ?_
        refine pe_iload_n (j := 2) (by decide +kernel) rfl ?_
        refine pz_icmp_gt (off := 7) (t := 14) (by decide +kernel) (by decide) rfl rfl hz84 (fun h88 => ?_) (fun h88 => ?_)
        · skip
          refine pe_iconstv (n := 0) (v := 0) (by decide +kernel) (by decide +kernel) ?_
          refine pe_iret (by decide +kernel) rfl rfl ⟨rfl, rfl, ?_⟩
          show pmE pg X pg_tyl pg_cl (d + 3) 221 13 [.ref 147, .int x1, .int v3] [.int 0] (md wc f A) _
          refine pe_iret (by decide +kernel) rfl rfl ⟨rfl, rfl, ?_⟩
          show pmE pg X pg_tyl pg_cl (d + 4) 230 53 [.ref 147, .int x1, .int x2, .int v1, .int v3, .int v80, .int v82] [.int 0] (md wc f A) _
          refine pz_if_eq (off := 42) (t := 95) (by decide +kernel) (by decide) rfl kz_0 (fun h89 => ?_) (fun h89 => by omega)
          refine pe_iconstv (n := 0) (v := 0) (by decide +kernel) (by decide +kernel) ?_
          exact pe_iret (by decide +kernel) rfl rfl ⟨f, A, 0, rfl, hI, (fun k n14 n15 => rfl), (fun k n152 n153 => rfl), (by omega), Or.inl ⟨rfl, (DI_refl hpp0 (by decide)), hpp1, trivial⟩⟩
        · skip
          refine pe_iconstv (n := 1) (v := 1) (by decide +kernel) (by decide +kernel) ?_
          refine pe_goto (off := 4) (t := 15) (by decide +kernel) (by decide) rfl ?_
          refine pe_iret (by decide +kernel) rfl rfl ⟨rfl, rfl, ?_⟩
          show pmE pg X pg_tyl pg_cl (d + 3) 221 13 [.ref 147, .int x1, .int v3] [.int 1] (md wc f A) _
          refine pe_iret (by decide +kernel) rfl rfl ⟨rfl, rfl, ?_⟩
          show pmE pg X pg_tyl pg_cl (d + 4) 230 53 [.ref 147, .int x1, .int x2, .int v1, .int v3, .int v80, .int v82] [.int 1] (md wc f A) _
          refine pz_if_eq (off := 42) (t := 95) (by decide +kernel) (by decide) rfl kz_1 (fun h90 => by omega) (fun h90 => ?_)
          refine pe_aload_n (j := 0) (by decide +kernel) rfl ?_
          refine pe_iload_n (j := 1) (by decide +kernel) rfl ?_
          refine pe_iload (j := 5) (by decide +kernel) rfl ?_
          refine pi_V (j := 166) (mj := 221) (by decide +kernel) (cll_V (args := [.int v80, .int x1]) (n := 2) (by decide +kernel) rfl rfl (md_o hc) (by decide +kernel) (Nat.le_of_ble_eq_true rfl) (Nat.le_of_ble_eq_true rfl)) ?_
          show pmE pg X pg_tyl pg_cl (d + 3) 221 0 [.ref 147, .int x1, .int v80] [] (md wc f A) _
          refine pe_iload_n (j := 2) (by decide +kernel) rfl ?_
          refine pe_iconstv (n := 0) (v := 0) (by decide +kernel) (by decide +kernel) ?_
          refine pe_aload_n (j := 0) (by decide +kernel) rfl ?_
          refine pe_get (j := 7) (ci := 12) (n := 0) (by decide +kernel) (by decide +kernel) (md_o hc) rfl ?_
          refine pe_iload_n (j := 1) (by decide +kernel) rfl ?_
          refine pz_iald (by decide +kernel) (md_a148 hc) (mlen_148 hI) rfl (by omega) (by omega) (fun v91 ev91 => ?_)
          rw [ev91.trans ev83.symm]
          clear ev91 v91
          refine pe_iconstv (n := 1) (v := 1) (by decide +kernel) (by decide +kernel) ?_
          refine pz_sub (by decide +kernel) rfl kz_1 (by omega) (by omega) (fun z92 hz92 => ?_)
          refine pi_S (j := 119) (mj := 199) (by decide +kernel) (by decide +kernel) rfl ?_
          show pmE pg X pg_tyl pg_cl (d + 2) 199 0 [.int v80, .int 0, .int z92] [] (md wc f A) _
          refine pe_iload_n (j := 0) (by decide +kernel) rfl ?_
          refine pe_iload_n (j := 1) (by decide +kernel) rfl ?_
          have lw94 := zi_lo v80
          have uw94 := zi_hi v80
          refine pz_icmp_lt (off := 12) (t := 14) (by decide +kernel) (by decide) rfl rfl kz_0 (fun h93 => ?_) (fun h93 => ?_)
          · skip
            refine pe_iconstv (n := 0) (v := 0) (by decide +kernel) (by decide +kernel) ?_
            refine pe_iret (by decide +kernel) rfl rfl ⟨rfl, rfl, ?_⟩
            show pmE pg X pg_tyl pg_cl (d + 3) 221 13 [.ref 147, .int x1, .int v80] [.int 0] (md wc f A) _
            refine pe_iret (by decide +kernel) rfl rfl ⟨rfl, rfl, ?_⟩
            show pmE pg X pg_tyl pg_cl (d + 4) 230 63 [.ref 147, .int x1, .int x2, .int v1, .int v3, .int v80, .int v82] [.int 0] (md wc f A) _
            refine pz_if_eq (off := 32) (t := 95) (by decide +kernel) (by decide) rfl kz_0 (fun h95 => ?_) (fun h95 => by omega)
            refine pe_iconstv (n := 0) (v := 0) (by decide +kernel) (by decide +kernel) ?_
            exact pe_iret (by decide +kernel) rfl rfl ⟨f, A, 0, rfl, hI, (fun k n14 n15 => rfl), (fun k n152 n153 => rfl), (by omega), Or.inl ⟨rfl, (DI_refl hpp0 (by decide)), hpp1, trivial⟩⟩
          · skip
            refine pe_iload_n (j := 0) (by decide +kernel) rfl ?_
            refine pe_iload_n (j := 2) (by decide +kernel) rfl ?_
            refine pz_icmp_gt (off := 7) (t := 14) (by decide +kernel) (by decide) rfl rfl hz92 (fun h96 => ?_) (fun h96 => ?_)
            · skip
              refine pe_iconstv (n := 0) (v := 0) (by decide +kernel) (by decide +kernel) ?_
              refine pe_iret (by decide +kernel) rfl rfl ⟨rfl, rfl, ?_⟩
              show pmE pg X pg_tyl pg_cl (d + 3) 221 13 [.ref 147, .int x1, .int v80] [.int 0] (md wc f A) _
              refine pe_iret (by decide +kernel) rfl rfl ⟨rfl, rfl, ?_⟩
              show pmE pg X pg_tyl pg_cl (d + 4) 230 63 [.ref 147, .int x1, .int x2, .int v1, .int v3, .int v80, .int v82] [.int 0] (md wc f A) _
              refine pz_if_eq (off := 32) (t := 95) (by decide +kernel) (by decide) rfl kz_0 (fun h97 => ?_) (fun h97 => by omega)
              refine pe_iconstv (n := 0) (v := 0) (by decide +kernel) (by decide +kernel) ?_
              exact pe_iret (by decide +kernel) rfl rfl ⟨f, A, 0, rfl, hI, (fun k n14 n15 => rfl), (fun k n152 n153 => rfl), (by omega), Or.inl ⟨rfl, (DI_refl hpp0 (by decide)), hpp1, trivial⟩⟩
            · skip
              refine pe_iconstv (n := 1) (v := 1) (by decide +kernel) (by decide +kernel) ?_
              refine pe_goto (off := 4) (t := 15) (by decide +kernel) (by decide) rfl ?_
              refine pe_iret (by decide +kernel) rfl rfl ⟨rfl, rfl, ?_⟩
              show pmE pg X pg_tyl pg_cl (d + 3) 221 13 [.ref 147, .int x1, .int v80] [.int 1] (md wc f A) _
              refine pe_iret (by decide +kernel) rfl rfl ⟨rfl, rfl, ?_⟩
              show pmE pg X pg_tyl pg_cl (d + 4) 230 63 [.ref 147, .int x1, .int x2, .int v1, .int v3, .int v80, .int v82] [.int 1] (md wc f A) _
              refine pz_if_eq (off := 32) (t := 95) (by decide +kernel) (by decide) rfl kz_1 (fun h98 => by omega) (fun h98 => ?_)
              refine pe_iload_n (j := 3) (by decide +kernel) rfl ?_
              refine pz_if_ne (off := 15) (t := 82) (by decide +kernel) (by decide) rfl rfl (fun h99 => ?_) (fun h99 => by omega)
              refine pe_aload_n (j := 0) (by decide +kernel) rfl ?_
              refine pe_iload (j := 4) (by decide +kernel) rfl ?_
              refine pe_iload (j := 5) (by decide +kernel) rfl ?_
              refine pi_V (j := 181) (mj := 232) (by decide +kernel) (cll_V (args := [.int v80, .int v3]) (n := 2) (by decide +kernel) rfl rfl (md_o hc) (by decide +kernel) (Nat.le_of_ble_eq_true rfl) (Nat.le_of_ble_eq_true rfl)) ?_
              show pmE pg X pg_tyl pg_cl (d + 3) 232 0 [.ref 147, .int v3, .int v80] [] (md wc f A) _
              refine pe_aload_n (j := 0) (by decide +kernel) rfl ?_
              refine pe_get (j := 23) (ci := 12) (n := 12) (by decide +kernel) (by decide +kernel) (md_o hc) rfl ?_
              refine pe_bipushv (n := 9) (v := 9) (by decide +kernel) (by decide +kernel) ?_
              refine pe_iload_n (j := 1) (by decide +kernel) rfl ?_
              refine pz_mul (by decide +kernel) kz_9 rfl (by omega) (by omega) (fun z100 hz100 => ?_)
              refine pe_iload_n (j := 2) (by decide +kernel) rfl ?_
              refine pz_add (by decide +kernel) hz100 rfl (by omega) (by omega) (fun z101 hz101 => ?_)
              clear hz100
              refine pz_iald (by decide +kernel) (md_a152 hc) (mlen_152 hI) hz101 (by omega) (by omega) (fun v102 ev102 => ?_)
              clear hz101
              refine pe_iret (by decide +kernel) rfl rfl ⟨rfl, rfl, ?_⟩
              show pmE pg X pg_tyl pg_cl (d + 4) 230 90 [.ref 147, .int x1, .int x2, .int v1, .int v3, .int v80, .int v82] [.int v102] (md wc f A) _
              refine pe_iload (j := 6) (by decide +kernel) rfl ?_
              have lw104 := zi_lo v102
              have uw104 := zi_hi v102
              refine pz_icmp_ge (off := 5) (t := 97) (by decide +kernel) (by decide) rfl rfl rfl (fun h103 => ?_) (fun h103 => ?_)
              · skip
                refine pe_aload_n (j := 0) (by decide +kernel) rfl ?_
                refine pe_get (j := 23) (ci := 12) (n := 12) (by decide +kernel) (by decide +kernel) (md_o hc) rfl ?_
                refine pe_bipushv (n := 9) (v := 9) (by decide +kernel) (by decide +kernel) ?_
                refine pe_iload (j := 4) (by decide +kernel) rfl ?_
                refine pz_mul (by decide +kernel) kz_9 rfl (by omega) (by omega) (fun z105 hz105 => ?_)
                refine pe_iload (j := 5) (by decide +kernel) rfl ?_
                refine pz_add (by decide +kernel) hz105 rfl (by omega) (by omega) (fun z106 hz106 => ?_)
                clear hz105
                refine pe_dup2 (by decide +kernel) ⟨rfl, rfl⟩ ?_
                refine pz_iald (by decide +kernel) (md_a152 hc) (mlen_152 hI) hz106 (by omega) (by omega) (fun v107 ev107 => ?_)
                rw [ev107.trans ev102.symm]
                clear ev107 v107
                have hb108 := hpp0 (((9 * v3.toInt) + v80.toInt)) (by omega) (by omega)
                rw [(show fr (A 152) (((9 * v3.toInt) + v80.toInt)) = v102.toInt from congrArg Int32.toInt ev102.symm)] at hb108
                refine pe_iload_n (j := 3) (by decide +kernel) rfl ?_
                refine pz_if_ne (off := 8) (t := 120) (by decide +kernel) (by decide) rfl rfl (fun h109 => ?_) (fun h109 => by omega)
                refine pe_iload (j := 6) (by decide +kernel) rfl ?_
                refine pz_neg (by decide +kernel) rfl (by omega) (by omega) (fun z110 hz110 => ?_)
                refine pz_add (by decide +kernel) rfl hz110 (by omega) (by omega) (fun z111 hz111 => ?_)
                clear hz110
                refine mz_st152 (by decide +kernel) hc hI hz106 (by omega) (by omega) (fun A112 eA112 hIA112 => ?_)
                refine pe_iconstv (n := 1) (v := 1) (by decide +kernel) (by decide +kernel) ?_
                exact pe_iret (by decide +kernel) rfl rfl ⟨f, A112, 1, rfl, hIA112, (fun k n14 n15 => rfl), (fun k n152 n153 => upa_fr eA112 n152), (by omega), Or.inr (⟨rfl, (by rw [upa_at eA112, (show fr (A 148) (x1.toInt) = v83.toInt from congrArg Int32.toInt ev83.symm)]; exact DI_up (DI_set (i := ((9 * v3.toInt) + v80.toInt)) (n := 99) (DI_refl (m := 0) hpp0 (by decide)) (by omega) (by omega) (mlen_152 hI) (by omega) (by rw [(show fr (A 152) (((9 * v3.toInt) + v80.toInt)) = v102.toInt from congrArg Int32.toInt ev102.symm)]; omega) (by decide) (fun h => absurd h (by omega))) (by decide)), (by rw [upa_fr eA112 (by decide : (153 : Nat) ≠ 152)]; exact hpp1), trivial⟩)⟩
              · skip
                refine pe_iconstv (n := 0) (v := 0) (by decide +kernel) (by decide +kernel) ?_
                exact pe_iret (by decide +kernel) rfl rfl ⟨f, A, 0, rfl, hI, (fun k n14 n15 => rfl), (fun k n152 n153 => rfl), (by omega), Or.inl ⟨rfl, (DI_refl hpp0 (by decide)), hpp1, trivial⟩⟩
