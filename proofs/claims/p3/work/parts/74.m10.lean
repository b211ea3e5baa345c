set_option maxRecDepth 100000 in
set_option maxHeartbeats 8000000 in
theorem MM_230 {X : pm_X} {d : Nat} {wc : pm_W} {f : Nat → Int32} {A : Nat → List Int32} {x1 x2 : Int32} (hc : wc.length = 147) (hI : MI f A) (gx1 : (610 ≤ x1.toInt ∧ x1.toInt ≤ 742 ∧ (x1.toInt - 610) % 132 = 0)) (gx2 : (875 ≤ x2.toInt ∧ x2.toInt ≤ 1680)) (hp14 : (0 ≤ (f 14).toInt ∧ (f 14).toInt ≤ 29)) (ha0 : (x2.toInt - 875) % 272 % 9 = 0) : pmE pg X pg_tyl pg_cl (d + 4) 230 0 (pm_ent (pm_max pg 230) [.ref 147, .int x1, .int x2]) [] (md wc f A) (fun q => ∃ (f' : Nat → Int32) (A' : Nat → List Int32) (r : Int32), q = (some (.int r), md wc f' A', 0, 0) ∧ MI f' A' ∧ (∀ k : Nat, k ≠ 14 → k ≠ 15 → f' k = f k) ∧ (∀ k : Nat, k ≠ 152 → k ≠ 153 → A' k = A k) ∧ ((f' 14).toInt + (-1) * (f 14).toInt + (-1)) ≤ 0 ∧ ((r = 0 ∧ True) ∨ (r = 1 ∧ True))) := by
  show pmE pg X pg_tyl pg_cl (d + 4) 230 0 [.ref 147, .int x1, .int x2, pm_dead, pm_dead, pm_dead, pm_dead] [] (md wc f A) _
  refine pe_aload_n (j := 0) (by decide +kernel) rfl ?_
  refine pe_get (j := 7) (ci := 12) (n := 0) (by decide +kernel) (by decide +kernel) (md_o hc) rfl ?_
  refine pe_iload_n (j := 2) (by decide +kernel) rfl ?_
  refine mz_ld148 (by decide +kernel) hc hI rfl (by omega) (by omega) (fun v1 ev1 pv1 => ?_)
  clear pv1
  refine pe_istore_n (j := 3) (ls' := [.ref 147, .int x1, .int x2, .int v1, pm_dead, pm_dead, pm_dead]) (by decide +kernel) (Nat.le_of_ble_eq_true rfl) rfl ?_
  refine pe_aload_n (j := 0) (by decide +kernel) rfl ?_
  refine pe_get (j := 7) (ci := 12) (n := 0) (by decide +kernel) (by decide +kernel) (md_o hc) rfl ?_
  refine pe_iload_n (j := 2) (by decide +kernel) rfl ?_
  refine pe_iconstv (n := 1) (v := 1) (by decide +kernel) (by decide +kernel) ?_
  refine pz_add (by decide +kernel) rfl kz_1 (by omega) (by omega) (fun z2 hz2 => ?_)
  refine mz_ld148 (by decide +kernel) hc hI hz2 (by omega) (by omega) (fun v3 ev3 pv3 => ?_)
  clear pv3
  clear hz2
  refine pe_istore (j := 4) (ls' := [.ref 147, .int x1, .int x2, .int v1, .int v3, pm_dead, pm_dead]) (by decide +kernel) (Nat.le_of_ble_eq_true rfl) rfl ?_
  refine pe_iload_n (j := 3) (by decide +kernel) rfl ?_
  refine pz_if_eq (off := 8) (t := 26) (by decide +kernel) (by decide) rfl rfl (fun h4 => ?_) (fun h4 => ?_)
  · skip
    refine pe_aload_n (j := 0) (by decide +kernel) rfl ?_
    refine pe_get (j := 7) (ci := 12) (n := 0) (by decide +kernel) (by decide +kernel) (md_o hc) rfl ?_
    refine pe_iload_n (j := 2) (by decide +kernel) rfl ?_
    refine pe_iconstv (n := 2) (v := 2) (by decide +kernel) (by decide +kernel) ?_
    refine pz_add (by decide +kernel) rfl kz_2 (by omega) (by omega) (fun z5 hz5 => ?_)
    refine mz_ld148 (by decide +kernel) hc hI hz5 (by omega) (by omega) (fun v6 ev6 pv6 => ?_)
    clear pv6
    clear hz5
    refine pe_istore (j := 5) (ls' := [.ref 147, .int x1, .int x2, .int v1, .int v3, .int v6, pm_dead]) (by decide +kernel) (Nat.le_of_ble_eq_true rfl) rfl ?_
    refine pe_aload_n (j := 0) (by decide +kernel) rfl ?_
    refine pe_get (j := 7) (ci := 12) (n := 0) (by decide +kernel) (by decide +kernel) (md_o hc) rfl ?_
    refine pe_iload_n (j := 2) (by decide +kernel) rfl ?_
    refine pe_iconstv (n := 3) (v := 3) (by decide +kernel) (by decide +kernel) ?_
    refine pz_add (by decide +kernel) rfl kz_3 (by omega) (by omega) (fun z7 hz7 => ?_)
    refine mz_ld148 (by decide +kernel) hc hI hz7 (by omega) (by omega) (fun v8 ev8 pv8 => ?_)
    clear pv8
    clear hz7
    refine pe_istore (j := 6) (ls' := [.ref 147, .int x1, .int x2, .int v1, .int v3, .int v6, .int v8]) (by decide +kernel) (Nat.le_of_ble_eq_true rfl) rfl ?_
    refine pe_aload_n (j := 0) (by decide +kernel) rfl ?_
    refine pe_iload_n (j := 1) (by decide +kernel) rfl ?_
    refine pe_iload (j := 4) (by decide +kernel) rfl ?_
    refine pi_V (j := 166) (mj := 221) (by decide +kernel) (cll_V (args := [.int v3, .int x1]) (n := 2) (by decide +kernel) rfl rfl (md_o hc) (by decide +kernel) (Nat.le_of_ble_eq_true rfl) (Nat.le_of_ble_eq_true rfl)) ?_
    show pmE pg X pg_tyl pg_cl (d + 3) 221 0 [.ref 147, .int x1, .int v3] [] (md wc f A) _
    refine pe_iload_n (j := 2) (by decide +kernel) rfl ?_
    refine pe_iconstv (n := 0) (v := 0) (by decide +kernel) (by decide +kernel) ?_
    refine pe_aload_n (j := 0) (by decide +kernel) rfl ?_
    refine pe_get (j := 7) (ci := 12) (n := 0) (by decide +kernel) (by decide +kernel) (md_o hc) rfl ?_
    refine pe_iload_n (j := 1) (by decide +kernel) rfl ?_
    refine mz_ld148 (by decide +kernel) hc hI rfl (by omega) (by omega) (fun v9 ev9 pv9 => ?_)
    have rv9 : 0 ≤ v9.toInt ∧ v9.toInt ≤ 9 := MT_people pv9 (by omega)
    clear pv9
    refine pe_iconstv (n := 1) (v := 1) (by decide +kernel) (by decide +kernel) ?_
    refine pz_sub (by decide +kernel) rfl kz_1 (by omega) (by omega) (fun z10 hz10 => ?_)
    refine pi_S (j := 119) (mj := 199) (by decide +kernel) (by decide +kernel) rfl ?_
    show pmE pg X pg_tyl pg_cl (d + 2) 199 0 [.int v3, .int 0, .int z10] [] (md wc f A) _
    refine pe_iload_n (j := 0) (by decide +kernel) rfl ?_
    refine pe_iload_n (j := 1) (by decide +kernel) rfl ?_
    refine pz_icmp_lt (off := 12) (t := 14) (by decide +kernel) (by decide) rfl rfl kz_0 (fun h11 => ?_) (fun h11 => ?_)
    · skip
      refine pe_iconstv (n := 0) (v := 0) (by decide +kernel) (by decide +kernel) ?_
      refine pe_iret (by decide +kernel) rfl rfl ⟨rfl, rfl, ?_⟩
      show pmE pg X pg_tyl pg_cl (d + 3) 221 13 [.ref 147, .int x1, .int v3] [.int 0] (md wc f A) _
      refine pe_iret (by decide +kernel) rfl rfl ⟨rfl, rfl, ?_⟩
      show pmE pg X pg_tyl pg_cl (d + 4) 230 53 [.ref 147, .int x1, .int x2, .int v1, .int v3, .int v6, .int v8] [.int 0] (md wc f A) _
      refine pz_if_eq (off := 42) (t := 95) (by decide +kernel) (by decide) rfl kz_0 (fun h12 => ?_) (fun h12 => by omega)
      refine pe_iconstv (n := 0) (v := 0) (by decide +kernel) (by decide +kernel) ?_
      exact pe_iret (by decide +kernel) rfl rfl ⟨f, A, 0, rfl, hI, (fun k n14 n15 => rfl), (fun k n152 n153 => rfl), (by omega), Or.inl ⟨rfl, trivial⟩⟩
    · skip
      refine pe_iload_n (j := 0) (by decide +kernel) rfl ?_
      refine pe_iload_n (j := 2) (by decide +kernel) rfl ?_
      refine pz_icmp_gt (off := 7) (t := 14) (by decide +kernel) (by decide) rfl rfl hz10 (fun h13 => ?_) (fun h13 => ?_)
      · skip
        refine pe_iconstv (n := 0) (v := 0) (by decide +kernel) (by decide +kernel) ?_
        refine pe_iret (by decide +kernel) rfl rfl ⟨rfl, rfl, ?_⟩
        show pmE pg X pg_tyl pg_cl (d + 3) 221 13 [.ref 147, .int x1, .int v3] [.int 0] (md wc f A) _
        refine pe_iret (by decide +kernel) rfl rfl ⟨rfl, rfl, ?_⟩
        show pmE pg X pg_tyl pg_cl (d + 4) 230 53 [.ref 147, .int x1, .int x2, .int v1, .int v3, .int v6, .int v8] [.int 0] (md wc f A) _
        refine pz_if_eq (off := 42) (t := 95) (by decide +kernel) (by decide) rfl kz_0 (fun h14 => ?_) (fun h14 => by omega)
        refine pe_iconstv (n := 0) (v := 0) (by decide +kernel) (by decide +kernel) ?_
        exact pe_iret (by decide +kernel) rfl rfl ⟨f, A, 0, rfl, hI, (fun k n14 n15 => rfl), (fun k n152 n153 => rfl), (by omega), Or.inl ⟨rfl, trivial⟩⟩
      · skip
        refine pe_iconstv (n := 1) (v := 1) (by decide +kernel) (by decide +kernel) ?_
        refine pe_goto (off := 4) (t := 15) (by decide +kernel) (by decide) rfl ?_
        refine pe_iret (by decide +kernel) rfl rfl ⟨rfl, rfl, ?_⟩
        show pmE pg X pg_tyl pg_cl (d + 3) 221 13 [.ref 147, .int x1, .int v3] [.int 1] (md wc f A) _
        refine pe_iret (by decide +kernel) rfl rfl ⟨rfl, rfl, ?_⟩
        show pmE pg X pg_tyl pg_cl (d + 4) 230 53 [.ref 147, .int x1, .int x2, .int v1, .int v3, .int v6, .int v8] [.int 1] (md wc f A) _
        refine pz_if_eq (off := 42) (t := 95) (by decide +kernel) (by decide) rfl kz_1 (fun h15 => by omega) (fun h15 => ?_)
        refine pe_aload_n (j := 0) (by decide +kernel) rfl ?_
        refine pe_iload_n (j := 1) (by decide +kernel) rfl ?_
        refine pe_iload (j := 5) (by decide +kernel) rfl ?_
        refine pi_V (j := 166) (mj := 221) (by decide +kernel) (cll_V (args := [.int v6, .int x1]) (n := 2) (by decide +kernel) rfl rfl (md_o hc) (by decide +kernel) (Nat.le_of_ble_eq_true rfl) (Nat.le_of_ble_eq_true rfl)) ?_
        show pmE pg X pg_tyl pg_cl (d + 3) 221 0 [.ref 147, .int x1, .int v6] [] (md wc f A) _
        refine pe_iload_n (j := 2) (by decide +kernel) rfl ?_
        refine pe_iconstv (n := 0) (v := 0) (by decide +kernel) (by decide +kernel) ?_
        refine pe_aload_n (j := 0) (by decide +kernel) rfl ?_
        refine pe_get (j := 7) (ci := 12) (n := 0) (by decide +kernel) (by decide +kernel) (md_o hc) rfl ?_
        refine pe_iload_n (j := 1) (by decide +kernel) rfl ?_
        refine mz_ld148 (by decide +kernel) hc hI rfl (by omega) (by omega) (fun v16 ev16 pv16 => ?_)
        rw [ev16.trans ev9.symm]
        clear pv16 ev16 v16
        refine pe_iconstv (n := 1) (v := 1) (by decide +kernel) (by decide +kernel) ?_
        refine pz_sub (by decide +kernel) rfl kz_1 (by omega) (by omega) (fun z17 hz17 => ?_)
        refine pi_S (j := 119) (mj := 199) (by decide +kernel) (by decide +kernel) rfl ?_
        show pmE pg X pg_tyl pg_cl (d + 2) 199 0 [.int v6, .int 0, .int z17] [] (md wc f A) _
        refine pe_iload_n (j := 0) (by decide +kernel) rfl ?_
        refine pe_iload_n (j := 1) (by decide +kernel) rfl ?_
        refine pz_icmp_lt (off := 12) (t := 14) (by decide +kernel) (by decide) rfl rfl kz_0 (fun h18 => ?_) (fun h18 => ?_)
        · skip
          refine pe_iconstv (n := 0) (v := 0) (by decide +kernel) (by decide +kernel) ?_
          refine pe_iret (by decide +kernel) rfl rfl ⟨rfl, rfl, ?_⟩
          show pmE pg X pg_tyl pg_cl (d + 3) 221 13 [.ref 147, .int x1, .int v6] [.int 0] (md wc f A) _
          refine pe_iret (by decide +kernel) rfl rfl ⟨rfl, rfl, ?_⟩
          show pmE pg X pg_tyl pg_cl (d + 4) 230 63 [.ref 147, .int x1, .int x2, .int v1, .int v3, .int v6, .int v8] [.int 0] (md wc f A) _
          refine pz_if_eq (off := 32) (t := 95) (by decide +kernel) (by decide) rfl kz_0 (fun h19 => ?_) (fun h19 => by omega)
          refine pe_iconstv (n := 0) (v := 0) (by decide +kernel) (by decide +kernel) ?_
          exact pe_iret (by decide +kernel) rfl rfl ⟨f, A, 0, rfl, hI, (fun k n14 n15 => rfl), (fun k n152 n153 => rfl), (by omega), Or.inl ⟨rfl, trivial⟩⟩
        · skip
          refine pe_iload_n (j := 0) (by decide +kernel) rfl ?_
          refine pe_iload_n (j := 2) (by decide +kernel) rfl ?_
          refine pz_icmp_gt (off := 7) (t := 14) (by decide +kernel) (by decide) rfl rfl hz17 (fun h20 => ?_) (fun h20 => ?_)
          · skip
            refine pe_iconstv (n := 0) (v := 0) (by decide +kernel) (by decide +kernel) ?_
            refine pe_iret (by decide +kernel) rfl rfl ⟨rfl, rfl, ?_⟩
            show pmE pg X pg_tyl pg_cl (d + 3) 221 13 [.ref 147, .int x1, .int v6] [.int 0] (md wc f A) _
            refine pe_iret (by decide +kernel) rfl rfl ⟨rfl, rfl, ?_⟩
            show pmE pg X pg_tyl pg_cl (d + 4) 230 63 [.ref 147, .int x1, .int x2, .int v1, .int v3, .int v6, .int v8] [.int 0] (md wc f A) _
            refine pz_if_eq (off := 32) (t := 95) (by decide +kernel) (by decide) rfl kz_0 (fun h21 => ?_) (fun h21 => by omega)
            refine pe_iconstv (n := 0) (v := 0) (by decide +kernel) (by decide +kernel) ?_
            exact pe_iret (by decide +kernel) rfl rfl ⟨f, A, 0, rfl, hI, (fun k n14 n15 => rfl), (fun k n152 n153 => rfl), (by omega), Or.inl ⟨rfl, trivial⟩⟩
          · skip
            refine pe_iconstv (n := 1) (v := 1) (by decide +kernel) (by decide +kernel) ?_
            refine pe_goto (off := 4) (t := 15) (by decide +kernel) (by decide) rfl ?_
            refine pe_iret (by decide +kernel) rfl rfl ⟨rfl, rfl, ?_⟩
            show pmE pg X pg_tyl pg_cl (d + 3) 221 13 [.ref 147, .int x1, .int v6] [.int 1] (md wc f A) _
            refine pe_iret (by decide +kernel) rfl rfl ⟨rfl, rfl, ?_⟩
            show pmE pg X pg_tyl pg_cl (d + 4) 230 63 [.ref 147, .int x1, .int x2, .int v1, .int v3, .int v6, .int v8] [.int 1] (md wc f A) _
            refine pz_if_eq (off := 32) (t := 95) (by decide +kernel) (by decide) rfl kz_1 (fun h22 => by omega) (fun h22 => ?_)
            refine pe_iload_n (j := 3) (by decide +kernel) rfl ?_
            refine pz_if_ne (off := 15) (t := 82) (by decide +kernel) (by decide) rfl rfl (fun h23 => by omega) (fun h23 => ?_)
            refine pe_aload_n (j := 0) (by decide +kernel) rfl ?_
            refine pe_iload_n (j := 1) (by decide +kernel) rfl ?_
            refine pe_iload (j := 4) (by decide +kernel) rfl ?_
            refine pe_iload (j := 5) (by decide +kernel) rfl ?_
            refine pz_callV (j := 199) (mj := 231) (by decide +kernel) (cll_V (args := [.int v6, .int v3, .int x1]) (n := 3) (by decide +kernel) rfl rfl (md_o hc) (by decide +kernel) (Nat.le_of_ble_eq_true rfl) (Nat.le_of_ble_eq_true rfl)) (MM_231 hc hI (by omega) (by omega) (by omega)) (fun q24a q24b q24c q24d hqq24 => ?_)
            obtain ⟨rq24, eq24, kq24⟩ := hqq24
            cases eq24
            refine ⟨rfl, rfl, ?_⟩
            show pmE pg X pg_tyl pg_cl (d + 4) 230 79 [.ref 147, .int x1, .int x2, .int v1, .int v3, .int v6, .int v8] [.int rq24] (md wc f A) _
            refine pe_goto (off := 11) (t := 90) (by decide +kernel) (by decide) rfl ?_
            refine pe_iload (j := 6) (by decide +kernel) rfl ?_
            refine pz_icmp_ge (off := 5) (t := 97) (by decide +kernel) (by decide) rfl rfl rfl (fun h25 => ?_) (fun h25 => ?_)
            · skip
              refine pe_aload_n (j := 0) (by decide +kernel) rfl ?_
              refine pe_get (j := 23) (ci := 12) (n := 12) (by decide +kernel) (by decide +kernel) (md_o hc) rfl ?_
              refine pe_bipushv (n := 9) (v := 9) (by decide +kernel) (by decide +kernel) ?_
              refine pe_iload (j := 4) (by decide +kernel) rfl ?_
              refine pz_mul (by decide +kernel) kz_9 rfl (by omega) (by omega) (fun z26 hz26 => ?_)
              refine pe_iload (j := 5) (by decide +kernel) rfl ?_
              refine pz_add (by decide +kernel) hz26 rfl (by omega) (by omega) (fun z27 hz27 => ?_)
              clear hz26
              refine pe_dup2 (by decide +kernel) ⟨rfl, rfl⟩ ?_
              refine mz_ld152 (by decide +kernel) hc hI hz27 (by omega) (by omega) (fun v28 ev28 => ?_)
              refine pe_iload_n (j := 3) (by decide +kernel) rfl ?_
              refine pz_if_ne (off := 8) (t := 120) (by decide +kernel) (by decide) rfl rfl (fun h29 => by omega) (fun h29 => ?_)
              refine pe_iload (j := 6) (by decide +kernel) rfl ?_
              refine pe_goto (off := 6) (t := 123) (by decide +kernel) (by decide) rfl ?_
              refine pw_add (by decide +kernel) (fun z30 => ?_)
              refine mz_st152 (by decide +kernel) hc hI hz27 (by omega) (by omega) (fun A31 eA31 hIA31 => ?_)
              clear hz27
              refine pe_iconstv (n := 1) (v := 1) (by decide +kernel) (by decide +kernel) ?_
              exact pe_iret (by decide +kernel) rfl rfl ⟨f, A31, 1, rfl, hIA31, (fun k n14 n15 => rfl), (fun k n152 n153 => upa_fr eA31 n152), (by omega), Or.inr (⟨rfl, trivial⟩)⟩
            · skip
              refine pe_iconstv (n := 0) (v := 0) (by decide +kernel) (by decide +kernel) ?_
              exact pe_iret (by decide +kernel) rfl rfl ⟨f, A, 0, rfl, hI, (fun k n14 n15 => rfl), (fun k n152 n153 => rfl), (by omega), Or.inl ⟨rfl, trivial⟩⟩
  · skip
    refine pe_iload_n (j := 3) (by decide +kernel) rfl ?_
    refine pe_iconstv (n := 1) (v := 1) (by decide +kernel) (by decide +kernel) ?_
    refine pz_icmp_ne (off := 104) (t := 127) (by decide +kernel) (by decide) rfl rfl kz_1 (fun h32 => ?_) (fun h32 => ?_)
    · skip
      refine pe_iload_n (j := 3) (by decide +kernel) rfl ?_
      refine pe_iconstv (n := 2) (v := 2) (by decide +kernel) (by decide +kernel) ?_
      refine pz_icmp_ne (off := 10) (t := 139) (by decide +kernel) (by decide) rfl rfl kz_2 (fun h33 => ?_) (fun h33 => ?_)
      · skip
        refine pe_iload_n (j := 3) (by decide +kernel) rfl ?_
        refine pe_iconstv (n := 3) (v := 3) (by decide +kernel) (by decide +kernel) ?_
        refine pz_icmp_ne (off := 32) (t := 173) (by decide +kernel) (by decide) rfl rfl kz_3 (fun h34 => ?_) (fun h34 => ?_)
        · skip
          refine pe_iload_n (j := 3) (by decide +kernel) rfl ?_
          refine pe_iconstv (n := 4) (v := 4) (by decide +kernel) (by decide +kernel) ?_
          refine pz_icmp_ne (off := 24) (t := 199) (by decide +kernel) (by decide) rfl rfl kz_4 (fun h35 => ?_) (fun h35 => ?_)
          · skip
            refine pe_aload_n (j := 0) (by decide +kernel) rfl ?_
            refine pz_callV (j := 208) (mj := 240) (by decide +kernel) (cll_V (args := []) (n := 0) (by decide +kernel) rfl rfl (md_o hc) (by decide +kernel) (Nat.le_of_ble_eq_true rfl) (Nat.le_of_ble_eq_true rfl)) (MM_240 hc hI) (fun q36a q36b q36c q36d hqq36 => ?_)
            obtain ⟨f37, A38, eq36, hIq36, hGq36, hFq36, kq36⟩ := hqq36
            cases eq36
            refine ⟨rfl, rfl, ?_⟩
            show pmE pg X pg_tyl pg_cl (d + 4) 230 203 [.ref 147, .int x1, .int x2, .int v1, .int v3, pm_dead, pm_dead] [] (md wc f37 A38) _
            refine pe_iconstv (n := 1) (v := 1) (by decide +kernel) (by decide +kernel) ?_
            have hx39 : (f37 14).toInt = (f 14).toInt := (congrArg Int32.toInt (show f37 14 = (f 14) from (hGq36 14 (by decide)))).trans rfl
            exact pe_iret (by decide +kernel) rfl rfl ⟨f37, A38, 1, rfl, hIq36, (fun k n14 n15 => (hGq36 k n15)), (fun k n152 n153 => (hFq36 k n152 n153)), (by omega), Or.inr (⟨rfl, trivial⟩)⟩
          · skip
            refine pe_aload_n (j := 0) (by decide +kernel) rfl ?_
            refine pe_iload_n (j := 1) (by decide +kernel) rfl ?_
            refine pe_iload (j := 4) (by decide +kernel) rfl ?_
            refine pi_V (j := 166) (mj := 221) (by decide +kernel) (cll_V (args := [.int v3, .int x1]) (n := 2) (by decide +kernel) rfl rfl (md_o hc) (by decide +kernel) (Nat.le_of_ble_eq_true rfl) (Nat.le_of_ble_eq_true rfl)) ?_
            show pmE pg X pg_tyl pg_cl (d + 3) 221 0 [.ref 147, .int x1, .int v3] [] (md wc f A) _
            refine pe_iload_n (j := 2) (by decide +kernel) rfl ?_
            refine pe_iconstv (n := 0) (v := 0) (by decide +kernel) (by decide +kernel) ?_
            refine pe_aload_n (j := 0) (by decide +kernel) rfl ?_
            refine pe_get (j := 7) (ci := 12) (n := 0) (by decide +kernel) (by decide +kernel) (md_o hc) rfl ?_
            refine pe_iload_n (j := 1) (by decide +kernel) rfl ?_
            refine mz_ld148 (by decide +kernel) hc hI rfl (by omega) (by omega) (fun v40 ev40 pv40 => ?_)
            have rv40 : 0 ≤ v40.toInt ∧ v40.toInt ≤ 9 := MT_people pv40 (by omega)
            clear pv40
            refine pe_iconstv (n := 1) (v := 1) (by decide +kernel) (by decide +kernel) ?_
            refine pz_sub (by decide +kernel) rfl kz_1 (by omega) (by omega) (fun z41 hz41 => ?_)
            refine pi_S (j := 119) (mj := 199) (by decide +kernel) (by decide +kernel) rfl ?_
            show pmE pg X pg_tyl pg_cl (d + 2) 199 0 [.int v3, .int 0, .int z41] [] (md wc f A) _
            refine pe_iload_n (j := 0) (by decide +kernel) rfl ?_
            refine pe_iload_n (j := 1) (by decide +kernel) rfl ?_
            refine pz_icmp_lt (off := 12) (t := 14) (by decide +kernel) (by decide) rfl rfl kz_0 (fun h42 => ?_) (fun h42 => ?_)
            · skip
              refine pe_iconstv (n := 0) (v := 0) (by decide +kernel) (by decide +kernel) ?_
              refine pe_iret (by decide +kernel) rfl rfl ⟨rfl, rfl, ?_⟩
              show pmE pg X pg_tyl pg_cl (d + 3) 221 13 [.ref 147, .int x1, .int v3] [.int 0] (md wc f A) _
              refine pe_iret (by decide +kernel) rfl rfl ⟨rfl, rfl, ?_⟩
              show pmE pg X pg_tyl pg_cl (d + 4) 230 185 [.ref 147, .int x1, .int x2, .int v1, .int v3, pm_dead, pm_dead] [.int 0] (md wc f A) _
              refine pz_if_ne (off := 5) (t := 190) (by decide +kernel) (by decide) rfl kz_0 (fun h43 => by omega) (fun h43 => ?_)
              refine pe_iconstv (n := 0) (v := 0) (by decide +kernel) (by decide +kernel) ?_
              exact pe_iret (by decide +kernel) rfl rfl ⟨f, A, 0, rfl, hI, (fun k n14 n15 => rfl), (fun k n152 n153 => rfl), (by omega), Or.inl ⟨rfl, trivial⟩⟩
            · skip
              refine pe_iload_n (j := 0) (by decide +kernel) rfl ?_
              refine pe_iload_n (j := 2) (by decide +kernel) rfl ?_
              refine pz_icmp_gt (off := 7) (t := 14) (by decide +kernel) (by decide) rfl rfl hz41 (fun h44 => ?_) (fun h44 => ?_)
              · skip
                refine pe_iconstv (n := 0) (v := 0) (by decide +kernel) (by decide +kernel) ?_
                refine pe_iret (by decide +kernel) rfl rfl ⟨rfl, rfl, ?_⟩
                show pmE pg X pg_tyl pg_cl (d + 3) 221 13 [.ref 147, .int x1, .int v3] [.int 0] (md wc f A) _
                refine pe_iret (by decide +kernel) rfl rfl ⟨rfl, rfl, ?_⟩
                show pmE pg X pg_tyl pg_cl (d + 4) 230 185 [.ref 147, .int x1, .int x2, .int v1, .int v3, pm_dead, pm_dead] [.int 0] (md wc f A) _
                refine pz_if_ne (off := 5) (t := 190) (by decide +kernel) (by decide) rfl kz_0 (fun h45 => by omega) (fun h45 => ?_)
                refine pe_iconstv (n := 0) (v := 0) (by decide +kernel) (by decide +kernel) ?_
                exact pe_iret (by decide +kernel) rfl rfl ⟨f, A, 0, rfl, hI, (fun k n14 n15 => rfl), (fun k n152 n153 => rfl), (by omega), Or.inl ⟨rfl, trivial⟩⟩
              · skip
                refine pe_iconstv (n := 1) (v := 1) (by decide +kernel) (by decide +kernel) ?_
                refine pe_goto (off := 4) (t := 15) (by decide +kernel) (by decide) rfl ?_
                refine pe_iret (by decide +kernel) rfl rfl ⟨rfl, rfl, ?_⟩
                show pmE pg X pg_tyl pg_cl (d + 3) 221 13 [.ref 147, .int x1, .int v3] [.int 1] (md wc f A) _
                refine pe_iret (by decide +kernel) rfl rfl ⟨rfl, rfl, ?_⟩
                show pmE pg X pg_tyl pg_cl (d + 4) 230 185 [.ref 147, .int x1, .int x2, .int v1, .int v3, pm_dead, pm_dead] [.int 1] (md wc f A) _
                refine pz_if_ne (off := 5) (t := 190) (by decide +kernel) (by decide) rfl kz_1 (fun h46 => ?_) (fun h46 => by omega)
                refine pe_aload_n (j := 0) (by decide +kernel) rfl ?_
                refine pe_iload (j := 4) (by decide +kernel) rfl ?_
                refine pz_callV (j := 205) (mj := 238) (by decide +kernel) (cll_V (args := [.int v3]) (n := 1) (by decide +kernel) rfl rfl (md_o hc) (by decide +kernel) (Nat.le_of_ble_eq_true rfl) (Nat.le_of_ble_eq_true rfl)) (MM_238 hc hI (by omega)) (fun q47a q47b q47c q47d hqq47 => ?_)
                obtain ⟨A48, eq47, hIq47, hFq47, kq47⟩ := hqq47
                cases eq47
                refine ⟨rfl, rfl, ?_⟩
                show pmE pg X pg_tyl pg_cl (d + 4) 230 196 [.ref 147, .int x1, .int x2, .int v1, .int v3, pm_dead, pm_dead] [] (md wc f A48) _
                refine pe_goto (off := 7) (t := 203) (by decide +kernel) (by decide) rfl ?_
                refine pe_iconstv (n := 1) (v := 1) (by decide +kernel) (by decide +kernel) ?_
                exact pe_iret (by decide +kernel) rfl rfl ⟨f, A48, 1, rfl, hIq47, (fun k n14 n15 => rfl), (fun k n152 n153 => (hFq47 k n152 n153)), (by omega), Or.inr (⟨rfl, trivial⟩)⟩
        · skip
          have hst := mi_row hI (i := x2.toInt) (by omega) (by omega) (by omega) ev1 ev3 (by omega)
          refine pe_iload (j := 4) (by decide +kernel) rfl ?_
          refine pe_aload_n (j := 0) (by decide +kernel) rfl ?_
          refine pe_get (j := 175) (ci := 12) (n := 14) (by decide +kernel) (by decide +kernel) (md_o hc) rfl ?_
          refine pz_icmp_ge (off := 12) (t := 162) (by decide +kernel) (by decide) rfl rfl rfl (fun h49 => ?_) (fun h49 => ?_)
          · skip
            refine pe_iconstv (n := 0) (v := 0) (by decide +kernel) (by decide +kernel) ?_
            exact pe_iret (by decide +kernel) rfl rfl ⟨f, A, 0, rfl, hI, (fun k n14 n15 => rfl), (fun k n152 n153 => rfl), (by omega), Or.inl ⟨rfl, trivial⟩⟩
          · skip
            refine pe_aload_n (j := 0) (by decide +kernel) rfl ?_
            refine pe_iload (j := 4) (by decide +kernel) rfl ?_
            refine pi_V (j := 190) (mj := 236) (by decide +kernel) (cll_V (args := [.int v3]) (n := 1) (by decide +kernel) rfl rfl (md_o hc) (by decide +kernel) (Nat.le_of_ble_eq_true rfl) (Nat.le_of_ble_eq_true rfl)) ?_
            show pmE pg X pg_tyl pg_cl (d + 3) 236 0 [.ref 147, .int v3] [] (md wc f A) _
            refine pe_aload_n (j := 0) (by decide +kernel) rfl ?_
            refine pe_get (j := 26) (ci := 12) (n := 13) (by decide +kernel) (by decide +kernel) (md_o hc) rfl ?_
            refine pe_bipushv (n := 10) (v := 10) (by decide +kernel) (by decide +kernel) ?_
            refine pe_iload_n (j := 1) (by decide +kernel) rfl ?_
            refine pz_mul (by decide +kernel) kz_10 rfl (by omega) (by omega) (fun z50 hz50 => ?_)
            refine pe_iconstv (n := 3) (v := 3) (by decide +kernel) (by decide +kernel) ?_
            refine pz_add (by decide +kernel) hz50 kz_3 (by omega) (by omega) (fun z51 hz51 => ?_)
            clear hz50
            refine mz_ld153 (by decide +kernel) hc hI hz51 (by omega) (by omega) (fun v52 ev52 pv52 => ?_)
            clear hz51
            refine pe_iconstv (n := 1) (v := 1) (by decide +kernel) (by decide +kernel) ?_
            refine pz_icmp_ne (off := 7) (t := 19) (by decide +kernel) (by decide) rfl rfl kz_1 (fun h53 => ?_) (fun h53 => ?_)
            · skip
              refine pe_iconstv (n := 0) (v := 0) (by decide +kernel) (by decide +kernel) ?_
              refine pe_iret (by decide +kernel) rfl rfl ⟨rfl, rfl, ?_⟩
              show pmE pg X pg_tyl pg_cl (d + 4) 230 159 [.ref 147, .int x1, .int x2, .int v1, .int v3, pm_dead, pm_dead] [.int 0] (md wc f A) _
              refine pz_if_ne (off := 5) (t := 164) (by decide +kernel) (by decide) rfl kz_0 (fun h54 => by omega) (fun h54 => ?_)
              refine pe_iconstv (n := 0) (v := 0) (by decide +kernel) (by decide +kernel) ?_
              exact pe_iret (by decide +kernel) rfl rfl ⟨f, A, 0, rfl, hI, (fun k n14 n15 => rfl), (fun k n152 n153 => rfl), (by omega), Or.inl ⟨rfl, trivial⟩⟩
            · skip
              refine pe_iconstv (n := 1) (v := 1) (by decide +kernel) (by decide +kernel) ?_
              refine pe_goto (off := 4) (t := 20) (by decide +kernel) (by decide) rfl ?_
              refine pe_iret (by decide +kernel) rfl rfl ⟨rfl, rfl, ?_⟩
              show pmE pg X pg_tyl pg_cl (d + 4) 230 159 [.ref 147, .int x1, .int x2, .int v1, .int v3, pm_dead, pm_dead] [.int 1] (md wc f A) _
              refine pz_if_ne (off := 5) (t := 164) (by decide +kernel) (by decide) rfl kz_1 (fun h55 => ?_) (fun h55 => by omega)
              refine pe_aload_n (j := 0) (by decide +kernel) rfl ?_
              refine pe_iload (j := 4) (by decide +kernel) rfl ?_
              refine pz_callV (j := 196) (mj := 237) (by decide +kernel) (cll_V (args := [.int v3]) (n := 1) (by decide +kernel) rfl rfl (md_o hc) (by decide +kernel) (Nat.le_of_ble_eq_true rfl) (Nat.le_of_ble_eq_true rfl)) (MM_237 hc hI (by omega)) (fun q56a q56b q56c q56d hqq56 => ?_)
              obtain ⟨A57, eq56, hIq56, hFq56, kq56⟩ := hqq56
              cases eq56
              refine ⟨rfl, rfl, ?_⟩
              show pmE pg X pg_tyl pg_cl (d + 4) 230 170 [.ref 147, .int x1, .int x2, .int v1, .int v3, pm_dead, pm_dead] [] (md wc f A57) _
              refine pe_goto (off := 33) (t := 203) (by decide +kernel) (by decide) rfl ?_
              refine pe_iconstv (n := 1) (v := 1) (by decide +kernel) (by decide +kernel) ?_
              exact pe_iret (by decide +kernel) rfl rfl ⟨f, A57, 1, rfl, hIq56, (fun k n14 n15 => rfl), (fun k n152 n153 => (hFq56 k n152 n153)), (by omega), Or.inr (⟨rfl, trivial⟩)⟩
      · skip
        refine pe_aload_n (j := 0) (by decide +kernel) rfl ?_
        refine pe_iload_n (j := 1) (by decide +kernel) rfl ?_
        refine pe_iload_n (j := 2) (by decide +kernel) rfl ?_
        refine pz_callV (j := 202) (mj := 233) (by decide +kernel) (cll_V (args := [.int x2, .int x1]) (n := 2) (by decide +kernel) rfl rfl (md_o hc) (by decide +kernel) (Nat.le_of_ble_eq_true rfl) (Nat.le_of_ble_eq_true rfl)) (MM_233 hc hI (by omega) (by omega) (by omega)) (fun q58a q58b q58c q58d hqq58 => ?_)
        obtain ⟨f59, A60, rq58, eq58, hIq58, hGq58, hFq58, hX0q58, kq58⟩ := hqq58
        cases eq58
        refine ⟨rfl, rfl, ?_⟩
        have hr_14_f59 := hIq58.1 14
        simp only [MF] at hr_14_f59
        rcases kq58 with kq58 | kq58
        · skip
          obtain ⟨erq58, kq58⟩ := kq58
          subst erq58
          show pmE pg X pg_tyl pg_cl (d + 4) 230 138 [.ref 147, .int x1, .int x2, .int v1, .int v3, pm_dead, pm_dead] [.int 1] (md wc f59 A60) _
          exact pe_iret (by decide +kernel) rfl rfl ⟨f59, A60, 1, rfl, hIq58, (fun k n14 n15 => (hGq58 k n14)), (fun k n152 n153 => (hFq58 k n152 n153)), (by omega), Or.inr (⟨rfl, trivial⟩)⟩
        · skip
          obtain ⟨erq58, kq58⟩ := kq58
          subst erq58
          show pmE pg X pg_tyl pg_cl (d + 4) 230 138 [.ref 147, .int x1, .int x2, .int v1, .int v3, pm_dead, pm_dead] [.int 0] (md wc f59 A60) _
          exact pe_iret (by decide +kernel) rfl rfl ⟨f59, A60, 0, rfl, hIq58, (fun k n14 n15 => (hGq58 k n14)), (fun k n152 n153 => (hFq58 k n152 n153)), (by omega), Or.inl ⟨rfl, trivial⟩⟩
    · skip
      refine pe_aload_n (j := 0) (by decide +kernel) rfl ?_
      refine pe_get (j := 7) (ci := 12) (n := 0) (by decide +kernel) (by decide +kernel) (md_o hc) rfl ?_
      refine pe_iload_n (j := 2) (by decide +kernel) rfl ?_
      refine pe_iconstv (n := 2) (v := 2) (by decide +kernel) (by decide +kernel) ?_
      refine pz_add (by decide +kernel) rfl kz_2 (by omega) (by omega) (fun z61 hz61 => ?_)
      refine mz_ld148 (by decide +kernel) hc hI hz61 (by omega) (by omega) (fun v62 ev62 pv62 => ?_)
      clear pv62
      clear hz61
      refine pe_istore (j := 5) (ls' := [.ref 147, .int x1, .int x2, .int v1, .int v3, .int v62, pm_dead]) (by decide +kernel) (Nat.le_of_ble_eq_true rfl) rfl ?_
      refine pe_aload_n (j := 0) (by decide +kernel) rfl ?_
      refine pe_get (j := 7) (ci := 12) (n := 0) (by decide +kernel) (by decide +kernel) (md_o hc) rfl ?_
      refine pe_iload_n (j := 2) (by decide +kernel) rfl ?_
      refine pe_iconstv (n := 3) (v := 3) (by decide +kernel) (by decide +kernel) ?_
      refine pz_add (by decide +kernel) rfl kz_3 (by omega) (by omega) (fun z63 hz63 => ?_)
      refine mz_ld148 (by decide +kernel) hc hI hz63 (by omega) (by omega) (fun v64 ev64 pv64 => ?_)
      clear pv64
      clear hz63
      refine pe_istore (j := 6) (ls' := [.ref 147, .int x1, .int x2, .int v1, .int v3, .int v62, .int v64]) (by decide +kernel) (Nat.le_of_ble_eq_true rfl) rfl ?_
      refine pe_aload_n (j := 0) (by decide +kernel) rfl ?_
      refine pe_iload_n (j := 1) (by decide +kernel) rfl ?_
      refine pe_iload (j := 4) (by decide +kernel) rfl ?_
      refine pi_V (j := 166) (mj := 221) (by decide +kernel) (cll_V (args := [.int v3, .int x1]) (n := 2) (by decide +kernel) rfl rfl (md_o hc) (by decide +kernel) (Nat.le_of_ble_eq_true rfl) (Nat.le_of_ble_eq_true rfl)) ?_
      show pmE pg X pg_tyl pg_cl (d + 3) 221 0 [.ref 147, .int x1, .int v3] [] (md wc f A) _
      refine pe_iload_n (j := 2) (by decide +kernel) rfl ?_
      refine pe_iconstv (n := 0) (v := 0) (by decide +kernel) (by decide +kernel) ?_
      refine pe_aload_n (j := 0) (by decide +kernel) rfl ?_
      refine pe_get (j := 7) (ci := 12) (n := 0) (by decide +kernel) (by decide +kernel) (md_o hc) rfl ?_
      refine pe_iload_n (j := 1) (by decide +kernel) rfl ?_
      refine mz_ld148 (by decide +kernel) hc hI rfl (by omega) (by omega) (fun v65 ev65 pv65 => ?_)
      have rv65 : 0 ≤ v65.toInt ∧ v65.toInt ≤ 9 := MT_people pv65 (by omega)
      clear pv65
      refine pe_iconstv (n := 1) (v := 1) (by decide +kernel) (by decide +kernel) ?_
      refine pz_sub (by decide +kernel) rfl kz_1 (by omega) (by omega) (fun z66 hz66 => ?_)
      refine pi_S (j := 119) (mj := 199) (by decide +kernel) (by decide +kernel) rfl ?_
      show pmE pg X pg_tyl pg_cl (d + 2) 199 0 [.int v3, .int 0, .int z66] [] (md wc f A) _
      refine pe_iload_n (j := 0) (by decide +kernel) rfl ?_
      refine pe_iload_n (j := 1) (by decide +kernel) rfl ?_
      refine pz_icmp_lt (off := 12) (t := 14) (by decide +kernel) (by decide) rfl rfl kz_0 (fun h67 => ?_) (fun h67 => ?_)
      · skip
        refine pe_iconstv (n := 0) (v := 0) (by decide +kernel) (by decide +kernel) ?_
        refine pe_iret (by decide +kernel) rfl rfl ⟨rfl, rfl, ?_⟩
        show pmE pg X pg_tyl pg_cl (d + 3) 221 13 [.ref 147, .int x1, .int v3] [.int 0] (md wc f A) _
        refine pe_iret (by decide +kernel) rfl rfl ⟨rfl, rfl, ?_⟩
        show pmE pg X pg_tyl pg_cl (d + 4) 230 53 [.ref 147, .int x1, .int x2, .int v1, .int v3, .int v62, .int v64] [.int 0] (md wc f A) _
        refine pz_if_eq (off := 42) (t := 95) (by decide +kernel) (by decide) rfl kz_0 (fun h68 => ?_) (fun h68 => by omega)
        refine pe_iconstv (n := 0) (v := 0) (by decide +kernel) (by decide +kernel) ?_
        exact pe_iret (by decide +kernel) rfl rfl ⟨f, A, 0, rfl, hI, (fun k n14 n15 => rfl), (fun k n152 n153 => rfl), (by omega), Or.inl ⟨rfl, trivial⟩⟩
      · skip
        refine pe_iload_n (j := 0) (by decide +kernel) rfl ?_
        refine pe_iload_n (j := 2) (by decide +kernel) rfl ?_
        refine pz_icmp_gt (off := 7) (t := 14) (by decide +kernel) (by decide) rfl rfl hz66 (fun h69 => ?_) (fun h69 => ?_)
        · skip
          refine pe_iconstv (n := 0) (v := 0) (by decide +kernel) (by decide +kernel) ?_
          refine pe_iret (by decide +kernel) rfl rfl ⟨rfl, rfl, ?_⟩
          show pmE pg X pg_tyl pg_cl (d + 3) 221 13 [.ref 147, .int x1, .int v3] [.int 0] (md wc f A) _
          refine pe_iret (by decide +kernel) rfl rfl ⟨rfl, rfl, ?_⟩
          show pmE pg X pg_tyl pg_cl (d + 4) 230 53 [.ref 147, .int x1, .int x2, .int v1, .int v3, .int v62, .int v64] [.int 0] (md wc f A) _
          refine pz_if_eq (off := 42) (t := 95) (by decide +kernel) (by decide) rfl kz_0 (fun h70 => ?_) (fun h70 => by omega)
          refine pe_iconstv (n := 0) (v := 0) (by decide +kernel) (by decide +kernel) ?_
          exact pe_iret (by decide +kernel) rfl rfl ⟨f, A, 0, rfl, hI, (fun k n14 n15 => rfl), (fun k n152 n153 => rfl), (by omega), Or.inl ⟨rfl, trivial⟩⟩
        · skip
          refine pe_iconstv (n := 1) (v := 1) (by decide +kernel) (by decide +kernel) ?_
          refine pe_goto (off := 4) (t := 15) (by decide +kernel) (by decide) rfl ?_
          refine pe_iret (by decide +kernel) rfl rfl ⟨rfl, rfl, ?_⟩
          show pmE pg X pg_tyl pg_cl (d + 3) 221 13 [.ref 147, .int x1, .int v3] [.int 1] (md wc f A) _
          refine pe_iret (by decide +kernel) rfl rfl ⟨rfl, rfl, ?_⟩
          show pmE pg X pg_tyl pg_cl (d + 4) 230 53 [.ref 147, .int x1, .int x2, .int v1, .int v3, .int v62, .int v64] [.int 1] (md wc f A) _
          refine pz_if_eq (off := 42) (t := 95) (by decide +kernel) (by decide) rfl kz_1 (fun h71 => by omega) (fun h71 => ?_)
          refine pe_aload_n (j := 0) (by decide +kernel) rfl ?_
          refine pe_iload_n (j := 1) (by decide +kernel) rfl ?_
          refine pe_iload (j := 5) (by decide +kernel) rfl ?_
          refine pi_V (j := 166) (mj := 221) (by decide +kernel) (cll_V (args := [.int v62, .int x1]) (n := 2) (by decide +kernel) rfl rfl (md_o hc) (by decide +kernel) (Nat.le_of_ble_eq_true rfl) (Nat.le_of_ble_eq_true rfl)) ?_
          show pmE pg X pg_tyl pg_cl (d + 3) 221 0 [.ref 147, .int x1, .int v62] [] (md wc f A) _
          refine pe_iload_n (j := 2) (by decide +kernel) rfl ?_
          refine pe_iconstv (n := 0) (v := 0) (by decide +kernel) (by decide +kernel) ?_
          refine pe_aload_n (j := 0) (by decide +kernel) rfl ?_
          refine pe_get (j := 7) (ci := 12) (n := 0) (by decide +kernel) (by decide +kernel) (md_o hc) rfl ?_
          refine pe_iload_n (j := 1) (by decide +kernel) rfl ?_
          refine mz_ld148 (by decide +kernel) hc hI rfl (by omega) (by omega) (fun v72 ev72 pv72 => ?_)
          rw [ev72.trans ev65.symm]
          clear pv72 ev72 v72
          refine pe_iconstv (n := 1) (v := 1) (by decide +kernel) (by decide +kernel) ?_
          refine pz_sub (by decide +kernel) rfl kz_1 (by omega) (by omega) (fun z73 hz73 => ?_)
          refine pi_S (j := 119) (mj := 199) (by decide +kernel) (by decide +kernel) rfl ?_
          show pmE pg X pg_tyl pg_cl (d + 2) 199 0 [.int v62, .int 0, .int z73] [] (md wc f A) _
          refine pe_iload_n (j := 0) (by decide +kernel) rfl ?_
          refine pe_iload_n (j := 1) (by decide +kernel) rfl ?_
          refine pz_icmp_lt (off := 12) (t := 14) (by decide +kernel) (by decide) rfl rfl kz_0 (fun h74 => ?_) (fun h74 => ?_)
          · skip
            refine pe_iconstv (n := 0) (v := 0) (by decide +kernel) (by decide +kernel) ?_
            refine pe_iret (by decide +kernel) rfl rfl ⟨rfl, rfl, ?_⟩
            show pmE pg X pg_tyl pg_cl (d + 3) 221 13 [.ref 147, .int x1, .int v62] [.int 0] (md wc f A) _
            refine pe_iret (by decide +kernel) rfl rfl ⟨rfl, rfl, ?_⟩
            show pmE pg X pg_tyl pg_cl (d + 4) 230 63 [.ref 147, .int x1, .int x2, .int v1, .int v3, .int v62, .int v64] [.int 0] (md wc f A) _
            refine pz_if_eq (off := 32) (t := 95) (by decide +kernel) (by decide) rfl kz_0 (fun h75 => ?_) (fun h75 => by omega)
            refine pe_iconstv (n := 0) (v := 0) (by decide +kernel) (by decide +kernel) ?_
            exact pe_iret (by decide +kernel) rfl rfl ⟨f, A, 0, rfl, hI, (fun k n14 n15 => rfl), (fun k n152 n153 => rfl), (by omega), Or.inl ⟨rfl, trivial⟩⟩
          · skip
            refine pe_iload_n (j := 0) (by decide +kernel) rfl ?_
            refine pe_iload_n (j := 2) (by decide +kernel) rfl ?_
            refine pz_icmp_gt (off := 7) (t := 14) (by decide +kernel) (by decide) rfl rfl hz73 (fun h76 => ?_) (fun h76 => ?_)
            · skip
              refine pe_iconstv (n := 0) (v := 0) (by decide +kernel) (by decide +kernel) ?_
              refine pe_iret (by decide +kernel) rfl rfl ⟨rfl, rfl, ?_⟩
              show pmE pg X pg_tyl pg_cl (d + 3) 221 13 [.ref 147, .int x1, .int v62] [.int 0] (md wc f A) _
              refine pe_iret (by decide +kernel) rfl rfl ⟨rfl, rfl, ?_⟩
              show pmE pg X pg_tyl pg_cl (d + 4) 230 63 [.ref 147, .int x1, .int x2, .int v1, .int v3, .int v62, .int v64] [.int 0] (md wc f A) _
              refine pz_if_eq (off := 32) (t := 95) (by decide +kernel) (by decide) rfl kz_0 (fun h77 => ?_) (fun h77 => by omega)
              refine pe_iconstv (n := 0) (v := 0) (by decide +kernel) (by decide +kernel) ?_
              exact pe_iret (by decide +kernel) rfl rfl ⟨f, A, 0, rfl, hI, (fun k n14 n15 => rfl), (fun k n152 n153 => rfl), (by omega), Or.inl ⟨rfl, trivial⟩⟩
            · skip
              refine pe_iconstv (n := 1) (v := 1) (by decide +kernel) (by decide +kernel) ?_
              refine pe_goto (off := 4) (t := 15) (by decide +kernel) (by decide) rfl ?_
              refine pe_iret (by decide +kernel) rfl rfl ⟨rfl, rfl, ?_⟩
              show pmE pg X pg_tyl pg_cl (d + 3) 221 13 [.ref 147, .int x1, .int v62] [.int 1] (md wc f A) _
              refine pe_iret (by decide +kernel) rfl rfl ⟨rfl, rfl, ?_⟩
              show pmE pg X pg_tyl pg_cl (d + 4) 230 63 [.ref 147, .int x1, .int x2, .int v1, .int v3, .int v62, .int v64] [.int 1] (md wc f A) _
              refine pz_if_eq (off := 32) (t := 95) (by decide +kernel) (by decide) rfl kz_1 (fun h78 => by omega) (fun h78 => ?_)
              refine pe_iload_n (j := 3) (by decide +kernel) rfl ?_
              refine pz_if_ne (off := 15) (t := 82) (by decide +kernel) (by decide) rfl rfl (fun h79 => ?_) (fun h79 => by omega)
              refine pe_aload_n (j := 0) (by decide +kernel) rfl ?_
              refine pe_iload (j := 4) (by decide +kernel) rfl ?_
              refine pe_iload (j := 5) (by decide +kernel) rfl ?_
              refine pi_V (j := 181) (mj := 232) (by decide +kernel) (cll_V (args := [.int v62, .int v3]) (n := 2) (by decide +kernel) rfl rfl (md_o hc) (by decide +kernel) (Nat.le_of_ble_eq_true rfl) (Nat.le_of_ble_eq_true rfl)) ?_
              show pmE pg X pg_tyl pg_cl (d + 3) 232 0 [.ref 147, .int v3, .int v62] [] (md wc f A) _
              refine pe_aload_n (j := 0) (by decide +kernel) rfl ?_
              refine pe_get (j := 23) (ci := 12) (n := 12) (by decide +kernel) (by decide +kernel) (md_o hc) rfl ?_
              refine pe_bipushv (n := 9) (v := 9) (by decide +kernel) (by decide +kernel) ?_
              refine pe_iload_n (j := 1) (by decide +kernel) rfl ?_
              refine pz_mul (by decide +kernel) kz_9 rfl (by omega) (by omega) (fun z80 hz80 => ?_)
              refine pe_iload_n (j := 2) (by decide +kernel) rfl ?_
              refine pz_add (by decide +kernel) hz80 rfl (by omega) (by omega) (fun z81 hz81 => ?_)
              clear hz80
              refine mz_ld152 (by decide +kernel) hc hI hz81 (by omega) (by omega) (fun v82 ev82 => ?_)
              clear hz81
              refine pe_iret (by decide +kernel) rfl rfl ⟨rfl, rfl, ?_⟩
              show pmE pg X pg_tyl pg_cl (d + 4) 230 90 [.ref 147, .int x1, .int x2, .int v1, .int v3, .int v62, .int v64] [.int v82] (md wc f A) _
              refine pe_iload (j := 6) (by decide +kernel) rfl ?_
              refine pz_icmp_ge (off := 5) (t := 97) (by decide +kernel) (by decide) rfl rfl rfl (fun h83 => ?_) (fun h83 => ?_)
              · skip
                refine pe_aload_n (j := 0) (by decide +kernel) rfl ?_
                refine pe_get (j := 23) (ci := 12) (n := 12) (by decide +kernel) (by decide +kernel) (md_o hc) rfl ?_
                refine pe_bipushv (n := 9) (v := 9) (by decide +kernel) (by decide +kernel) ?_
                refine pe_iload (j := 4) (by decide +kernel) rfl ?_
                refine pz_mul (by decide +kernel) kz_9 rfl (by omega) (by omega) (fun z84 hz84 => ?_)
                refine pe_iload (j := 5) (by decide +kernel) rfl ?_
                refine pz_add (by decide +kernel) hz84 rfl (by omega) (by omega) (fun z85 hz85 => ?_)
                clear hz84
                refine pe_dup2 (by decide +kernel) ⟨rfl, rfl⟩ ?_
                refine mz_ld152 (by decide +kernel) hc hI hz85 (by omega) (by omega) (fun v86 ev86 => ?_)
                rw [ev86.trans ev82.symm]
                clear ev86 v86
                refine pe_iload_n (j := 3) (by decide +kernel) rfl ?_
                refine pz_if_ne (off := 8) (t := 120) (by decide +kernel) (by decide) rfl rfl (fun h87 => ?_) (fun h87 => by omega)
                refine pe_iload (j := 6) (by decide +kernel) rfl ?_
                refine pw_neg (by decide +kernel) (fun z88 => ?_)
                refine pw_add (by decide +kernel) (fun z89 => ?_)
                refine mz_st152 (by decide +kernel) hc hI hz85 (by omega) (by omega) (fun A90 eA90 hIA90 => ?_)
                clear hz85
                refine pe_iconstv (n := 1) (v := 1) (by decide +kernel) (by decide +kernel) ?_
                exact pe_iret (by decide +kernel) rfl rfl ⟨f, A90, 1, rfl, hIA90, (fun k n14 n15 => rfl), (fun k n152 n153 => upa_fr eA90 n152), (by omega), Or.inr (⟨rfl, trivial⟩)⟩
              · skip
                refine pe_iconstv (n := 0) (v := 0) (by decide +kernel) (by decide +kernel) ?_
                exact pe_iret (by decide +kernel) rfl rfl ⟨f, A, 0, rfl, hI, (fun k n14 n15 => rfl), (fun k n152 n153 => rfl), (by omega), Or.inl ⟨rfl, trivial⟩⟩
