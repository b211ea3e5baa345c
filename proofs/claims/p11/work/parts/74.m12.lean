set_option maxRecDepth 100000 in
set_option maxHeartbeats 8000000 in
theorem MM_218 {X : pm_X} {d : Nat} {wc : pm_W} {f : Nat → Int32} {A : Nat → List Int32} {x1 : Int32} (hc : wc.length = 147) (hI : MI f A) : pmE pg X pg_tyl pg_cl (d) 218 0 (pm_ent (pm_max pg 218) [.ref 147, .int x1]) [] (md wc f A) (fun q => ∃ (r : Int32), q = (some (.int r), md wc f A, 0, 0) ∧ ((True ∧ True))) := by
  show pmE pg X pg_tyl pg_cl (d) 218 0 [.ref 147, .int x1] [] (md wc f A) _
  refine pe_iload_n (j := 1) (by decide +kernel) rfl ?_
  have lw2 := zi_lo x1
  have uw2 := zi_hi x1
  refine pz_if_ne (off := 12) (t := 13) (by decide +kernel) (by decide) rfl rfl (fun h1 => ?_) (fun h1 => ?_)
  · skip
    refine pe_iload_n (j := 1) (by decide +kernel) rfl ?_
    refine pe_iconstv (n := 1) (v := 1) (by decide +kernel) (by decide +kernel) ?_
    refine pz_icmp_ne (off := 12) (t := 27) (by decide +kernel) (by decide) rfl rfl kz_1 (fun h3 => ?_) (fun h3 => ?_)
    · skip
      refine pe_iconstv (n := (-1)) (v := (-1)) (by decide +kernel) (by decide +kernel) ?_
      exact pe_iret (by decide +kernel) rfl rfl ⟨(-1), rfl, ⟨trivial, trivial⟩⟩
    · skip
      refine pe_aload_n (j := 0) (by decide +kernel) rfl ?_
      refine pe_get (j := 7) (ci := 12) (n := 0) (by decide +kernel) (by decide +kernel) (md_o hc) rfl ?_
      refine pe_iconstv (n := 4) (v := 4) (by decide +kernel) (by decide +kernel) ?_
      refine mz_ld148 (by decide +kernel) hc hI kz_4 (by omega) (by omega) (fun v4 ev4 pv4 => ?_)
      clear pv4
      refine pe_goto (off := 4) (t := 28) (by decide +kernel) (by decide) rfl ?_
      exact pe_iret (by decide +kernel) rfl rfl ⟨v4, rfl, ⟨trivial, trivial⟩⟩
  · skip
    refine pe_aload_n (j := 0) (by decide +kernel) rfl ?_
    refine pe_get (j := 7) (ci := 12) (n := 0) (by decide +kernel) (by decide +kernel) (md_o hc) rfl ?_
    refine pe_iconstv (n := 3) (v := 3) (by decide +kernel) (by decide +kernel) ?_
    refine mz_ld148 (by decide +kernel) hc hI kz_3 (by omega) (by omega) (fun v5 ev5 pv5 => ?_)
    clear pv5
    refine pe_goto (off := 18) (t := 28) (by decide +kernel) (by decide) rfl ?_
    exact pe_iret (by decide +kernel) rfl rfl ⟨v5, rfl, ⟨trivial, trivial⟩⟩
set_option maxRecDepth 100000 in
set_option maxHeartbeats 8000000 in
theorem MM_315 {X : pm_X} {d : Nat} {wc : pm_W} {f : Nat → Int32} {A : Nat → List Int32} {x1 : Int32} (hc : wc.length = 147) (hI : MI f A) : pmE pg X pg_tyl pg_cl (d + 1) 315 0 (pm_ent (pm_max pg 315) [.ref 147, .int x1]) [] (md wc f A) (fun q => ∃ (r : Int32), q = (some (.int r), md wc f A, 0, 0) ∧ ((((-2) ≤ r.toInt ∧ r.toInt ≤ 3) ∧ True))) := by
  show pmE pg X pg_tyl pg_cl (d + 1) 315 0 [.ref 147, .int x1] [] (md wc f A) _
  refine pe_iload_n (j := 1) (by decide +kernel) rfl ?_
  refine pe_iconstv (n := 0) (v := 0) (by decide +kernel) (by decide +kernel) ?_
  refine pe_iconstv (n := 1) (v := 1) (by decide +kernel) (by decide +kernel) ?_
  refine pi_S (j := 119) (mj := 199) (by decide +kernel) (by decide +kernel) rfl ?_
  show pmE pg X pg_tyl pg_cl (d) 199 0 [.int x1, .int 0, .int 1] [] (md wc f A) _
  refine pe_iload_n (j := 0) (by decide +kernel) rfl ?_
  refine pe_iload_n (j := 1) (by decide +kernel) rfl ?_
  have lw2 := zi_lo x1
  have uw2 := zi_hi x1
  refine pz_icmp_lt (off := 12) (t := 14) (by decide +kernel) (by decide) rfl rfl kz_0 (fun h1 => ?_) (fun h1 => ?_)
  · skip
    refine pe_iconstv (n := 0) (v := 0) (by decide +kernel) (by decide +kernel) ?_
    refine pe_iret (by decide +kernel) rfl rfl ⟨rfl, rfl, ?_⟩
    show pmE pg X pg_tyl pg_cl (d + 1) 315 6 [.ref 147, .int x1] [.int 0] (md wc f A) _
    refine pz_if_eq (off := 12) (t := 18) (by decide +kernel) (by decide) rfl kz_0 (fun h3 => ?_) (fun h3 => by omega)
    refine pe_bipushv (n := (-2)) (v := (-2)) (by decide +kernel) (by decide +kernel) ?_
    exact pe_iret (by decide +kernel) rfl rfl ⟨(-2), rfl, ⟨(by decide +kernel), trivial⟩⟩
  · skip
    refine pe_iload_n (j := 0) (by decide +kernel) rfl ?_
    refine pe_iload_n (j := 2) (by decide +kernel) rfl ?_
    refine pz_icmp_gt (off := 7) (t := 14) (by decide +kernel) (by decide) rfl rfl kz_1 (fun h4 => ?_) (fun h4 => ?_)
    · skip
      refine pe_iconstv (n := 0) (v := 0) (by decide +kernel) (by decide +kernel) ?_
      refine pe_iret (by decide +kernel) rfl rfl ⟨rfl, rfl, ?_⟩
      show pmE pg X pg_tyl pg_cl (d + 1) 315 6 [.ref 147, .int x1] [.int 0] (md wc f A) _
      refine pz_if_eq (off := 12) (t := 18) (by decide +kernel) (by decide) rfl kz_0 (fun h5 => ?_) (fun h5 => by omega)
      refine pe_bipushv (n := (-2)) (v := (-2)) (by decide +kernel) (by decide +kernel) ?_
      exact pe_iret (by decide +kernel) rfl rfl ⟨(-2), rfl, ⟨(by decide +kernel), trivial⟩⟩
    · skip
      refine pe_iconstv (n := 1) (v := 1) (by decide +kernel) (by decide +kernel) ?_
      refine pe_goto (off := 4) (t := 15) (by decide +kernel) (by decide) rfl ?_
      refine pe_iret (by decide +kernel) rfl rfl ⟨rfl, rfl, ?_⟩
      show pmE pg X pg_tyl pg_cl (d + 1) 315 6 [.ref 147, .int x1] [.int 1] (md wc f A) _
      refine pz_if_eq (off := 12) (t := 18) (by decide +kernel) (by decide) rfl kz_1 (fun h6 => by omega) (fun h6 => ?_)
      refine pe_aload_n (j := 0) (by decide +kernel) rfl ?_
      refine pe_get (j := 7) (ci := 12) (n := 0) (by decide +kernel) (by decide +kernel) (md_o hc) rfl ?_
      refine pe_iload_n (j := 1) (by decide +kernel) rfl ?_
      refine mz_ld148 (by decide +kernel) hc hI rfl (by omega) (by omega) (fun v7 ev7 pv7 => ?_)
      have rv7 : 0 ≤ v7.toInt ∧ v7.toInt ≤ 3 := by have p := pv7; simp only [MT] at p; omega
      clear pv7
      refine pe_goto (off := 5) (t := 20) (by decide +kernel) (by decide) rfl ?_
      exact pe_iret (by decide +kernel) rfl rfl ⟨v7, rfl, ⟨(by omega), trivial⟩⟩
set_option maxRecDepth 100000 in
set_option maxHeartbeats 8000000 in
theorem MM_219 {X : pm_X} {d : Nat} {wc : pm_W} {f : Nat → Int32} {A : Nat → List Int32} {x1 x2 : Int32} (hc : wc.length = 147) (hI : MI f A) : pmE pg X pg_tyl pg_cl (d + 2) 219 0 (pm_ent (pm_max pg 219) [.ref 147, .int x1, .int x2]) [] (md wc f A) (fun q => ∃ (r : Int32), q = (some (.int r), md wc f A, 0, 0) ∧ ((True ∧ True))) := by
  show pmE pg X pg_tyl pg_cl (d + 2) 219 0 [.ref 147, .int x1, .int x2, pm_dead] [] (md wc f A) _
  refine pe_aload_n (j := 0) (by decide +kernel) rfl ?_
  refine pe_iconstv (n := 0) (v := 0) (by decide +kernel) (by decide +kernel) ?_
  refine pe_iload_n (j := 1) (by decide +kernel) rfl ?_
  refine pi_V (j := 153) (mj := 200) (by decide +kernel) (cll_V (args := [.int x1, .int 0]) (n := 2) (by decide +kernel) rfl rfl (md_o hc) (by decide +kernel) (Nat.le_of_ble_eq_true rfl) (Nat.le_of_ble_eq_true rfl)) ?_
  show pmE pg X pg_tyl pg_cl (d + 1) 200 0 [.ref 147, .int 0, .int x1] [] (md wc f A) _
  refine pe_iload_n (j := 2) (by decide +kernel) rfl ?_
  refine pe_iconstv (n := 0) (v := 0) (by decide +kernel) (by decide +kernel) ?_
  refine pe_aload_n (j := 0) (by decide +kernel) rfl ?_
  refine pe_get (j := 7) (ci := 12) (n := 0) (by decide +kernel) (by decide +kernel) (md_o hc) rfl ?_
  refine pe_iload_n (j := 1) (by decide +kernel) rfl ?_
  refine mz_ld148 (by decide +kernel) hc hI kz_0 (by omega) (by omega) (fun v1 ev1 pv1 => ?_)
  have rv1 : 0 ≤ v1.toInt ∧ v1.toInt ≤ 2 := MT_c0 pv1 (by omega)
  clear pv1
  refine pe_iconstv (n := 1) (v := 1) (by decide +kernel) (by decide +kernel) ?_
  refine pz_sub (by decide +kernel) rfl kz_1 (by omega) (by omega) (fun z2 hz2 => ?_)
  refine pi_S (j := 119) (mj := 199) (by decide +kernel) (by decide +kernel) rfl ?_
  show pmE pg X pg_tyl pg_cl (d) 199 0 [.int x1, .int 0, .int z2] [] (md wc f A) _
  refine pe_iload_n (j := 0) (by decide +kernel) rfl ?_
  refine pe_iload_n (j := 1) (by decide +kernel) rfl ?_
  have lw4 := zi_lo x1
  have uw4 := zi_hi x1
  refine pz_icmp_lt (off := 12) (t := 14) (by decide +kernel) (by decide) rfl rfl kz_0 (fun h3 => ?_) (fun h3 => ?_)
  · skip
    refine pe_iconstv (n := 0) (v := 0) (by decide +kernel) (by decide +kernel) ?_
    refine pe_iret (by decide +kernel) rfl rfl ⟨rfl, rfl, ?_⟩
    show pmE pg X pg_tyl pg_cl (d + 1) 200 13 [.ref 147, .int 0, .int x1] [.int 0] (md wc f A) _
    refine pe_iret (by decide +kernel) rfl rfl ⟨rfl, rfl, ?_⟩
    show pmE pg X pg_tyl pg_cl (d + 2) 219 6 [.ref 147, .int x1, .int x2, pm_dead] [.int 0] (md wc f A) _
    refine pz_if_ne (off := 5) (t := 11) (by decide +kernel) (by decide) rfl kz_0 (fun h5 => by omega) (fun h5 => ?_)
    refine pe_iconstv (n := (-1)) (v := (-1)) (by decide +kernel) (by decide +kernel) ?_
    exact pe_iret (by decide +kernel) rfl rfl ⟨(-1), rfl, ⟨trivial, trivial⟩⟩
  · skip
    refine pe_iload_n (j := 0) (by decide +kernel) rfl ?_
    refine pe_iload_n (j := 2) (by decide +kernel) rfl ?_
    refine pz_icmp_gt (off := 7) (t := 14) (by decide +kernel) (by decide) rfl rfl hz2 (fun h6 => ?_) (fun h6 => ?_)
    · skip
      refine pe_iconstv (n := 0) (v := 0) (by decide +kernel) (by decide +kernel) ?_
      refine pe_iret (by decide +kernel) rfl rfl ⟨rfl, rfl, ?_⟩
      show pmE pg X pg_tyl pg_cl (d + 1) 200 13 [.ref 147, .int 0, .int x1] [.int 0] (md wc f A) _
      refine pe_iret (by decide +kernel) rfl rfl ⟨rfl, rfl, ?_⟩
      show pmE pg X pg_tyl pg_cl (d + 2) 219 6 [.ref 147, .int x1, .int x2, pm_dead] [.int 0] (md wc f A) _
      refine pz_if_ne (off := 5) (t := 11) (by decide +kernel) (by decide) rfl kz_0 (fun h7 => by omega) (fun h7 => ?_)
      refine pe_iconstv (n := (-1)) (v := (-1)) (by decide +kernel) (by decide +kernel) ?_
      exact pe_iret (by decide +kernel) rfl rfl ⟨(-1), rfl, ⟨trivial, trivial⟩⟩
    · skip
      refine pe_iconstv (n := 1) (v := 1) (by decide +kernel) (by decide +kernel) ?_
      refine pe_goto (off := 4) (t := 15) (by decide +kernel) (by decide) rfl ?_
      refine pe_iret (by decide +kernel) rfl rfl ⟨rfl, rfl, ?_⟩
      show pmE pg X pg_tyl pg_cl (d + 1) 200 13 [.ref 147, .int 0, .int x1] [.int 1] (md wc f A) _
      refine pe_iret (by decide +kernel) rfl rfl ⟨rfl, rfl, ?_⟩
      show pmE pg X pg_tyl pg_cl (d + 2) 219 6 [.ref 147, .int x1, .int x2, pm_dead] [.int 1] (md wc f A) _
      refine pz_if_ne (off := 5) (t := 11) (by decide +kernel) (by decide) rfl kz_1 (fun h8 => ?_) (fun h8 => by omega)
      refine pe_iconstv (n := 0) (v := 0) (by decide +kernel) (by decide +kernel) ?_
      refine pe_iload_n (j := 1) (by decide +kernel) rfl ?_
      refine pi_S (j := 163) (mj := 217) (by decide +kernel) (by decide +kernel) rfl ?_
      show pmE pg X pg_tyl pg_cl (d + 1) 217 0 [.int 0, .int x1] [] (md wc f A) _
      refine pe_iload_n (j := 0) (by decide +kernel) rfl ?_
      refine pz_if_ne (off := 15) (t := 16) (by decide +kernel) (by decide) rfl kz_0 (fun h9 => by omega) (fun h9 => ?_)
      refine pe_sipushv (n := 610) (v := 610) (by decide +kernel) (by decide +kernel) ?_
      refine pe_sipushv (n := 132) (v := 132) (by decide +kernel) (by decide +kernel) ?_
      refine pe_iload_n (j := 1) (by decide +kernel) rfl ?_
      refine pz_mul (by decide +kernel) kz_132 rfl (by omega) (by omega) (fun z10 hz10 => ?_)
      refine pz_add (by decide +kernel) kz_610 hz10 (by omega) (by omega) (fun z11 hz11 => ?_)
      clear hz10
      refine pe_goto (off := 12) (t := 25) (by decide +kernel) (by decide) rfl ?_
      refine pe_iret (by decide +kernel) rfl rfl ⟨rfl, rfl, ?_⟩
      show pmE pg X pg_tyl pg_cl (d + 2) 219 16 [.ref 147, .int x1, .int x2, pm_dead] [.int z11] (md wc f A) _
      refine pe_istore_n (j := 3) (ls' := [.ref 147, .int x1, .int x2, .int z11]) (by decide +kernel) (Nat.le_of_ble_eq_true rfl) rfl ?_
      refine pe_iload_n (j := 2) (by decide +kernel) rfl ?_
      refine pe_iconstv (n := 0) (v := 0) (by decide +kernel) (by decide +kernel) ?_
      refine pe_iconstv (n := 2) (v := 2) (by decide +kernel) (by decide +kernel) ?_
      refine pi_S (j := 119) (mj := 199) (by decide +kernel) (by decide +kernel) rfl ?_
      show pmE pg X pg_tyl pg_cl (d + 1) 199 0 [.int x2, .int 0, .int 2] [] (md wc f A) _
      refine pe_iload_n (j := 0) (by decide +kernel) rfl ?_
      refine pe_iload_n (j := 1) (by decide +kernel) rfl ?_
      have lw13 := zi_lo x2
      have uw13 := zi_hi x2
      refine pz_icmp_lt (off := 12) (t := 14) (by decide +kernel) (by decide) rfl rfl kz_0 (fun h12 => ?_) (fun h12 => ?_)
      · skip
        refine pe_iconstv (n := 0) (v := 0) (by decide +kernel) (by decide +kernel) ?_
        refine pe_iret (by decide +kernel) rfl rfl ⟨rfl, rfl, ?_⟩
        show pmE pg X pg_tyl pg_cl (d + 2) 219 23 [.ref 147, .int x1, .int x2, .int z11] [.int 0] (md wc f A) _
        refine pz_if_eq (off := 12) (t := 35) (by decide +kernel) (by decide) rfl kz_0 (fun h14 => ?_) (fun h14 => by omega)
        refine pe_iload_n (j := 2) (by decide +kernel) rfl ?_
        refine pe_bipushv (n := 10) (v := 10) (by decide +kernel) (by decide +kernel) ?_
        refine pe_bipushv (n := 9) (v := 9) (by decide +kernel) (by decide +kernel) ?_
        refine pe_aload_n (j := 0) (by decide +kernel) rfl ?_
        refine pe_get (j := 7) (ci := 12) (n := 0) (by decide +kernel) (by decide +kernel) (md_o hc) rfl ?_
        refine pe_iload_n (j := 3) (by decide +kernel) rfl ?_
        refine mz_ld148 (by decide +kernel) hc hI hz11 (by omega) (by omega) (fun v15 ev15 pv15 => ?_)
        have rv15 : 0 ≤ v15.toInt ∧ v15.toInt ≤ 9 := MT_people pv15 (by omega)
        clear pv15
        refine pz_add (by decide +kernel) kz_9 rfl (by omega) (by omega) (fun z16 hz16 => ?_)
        refine pi_S (j := 119) (mj := 199) (by decide +kernel) (by decide +kernel) rfl ?_
        show pmE pg X pg_tyl pg_cl (d + 1) 199 0 [.int x2, .int 10, .int z16] [] (md wc f A) _
        refine pe_iload_n (j := 0) (by decide +kernel) rfl ?_
        refine pe_iload_n (j := 1) (by decide +kernel) rfl ?_
        refine pz_icmp_lt (off := 12) (t := 14) (by decide +kernel) (by decide) rfl rfl kz_10 (fun h17 => ?_) (fun h17 => by omega)
        refine pe_iconstv (n := 0) (v := 0) (by decide +kernel) (by decide +kernel) ?_
        refine pe_iret (by decide +kernel) rfl rfl ⟨rfl, rfl, ?_⟩
        show pmE pg X pg_tyl pg_cl (d + 2) 219 50 [.ref 147, .int x1, .int x2, .int z11] [.int 0] (md wc f A) _
        refine pz_if_eq (off := 18) (t := 68) (by decide +kernel) (by decide) rfl kz_0 (fun h18 => ?_) (fun h18 => by omega)
        refine pe_iload_n (j := 2) (by decide +kernel) rfl ?_
        refine pe_bipushv (n := 20) (v := 20) (by decide +kernel) (by decide +kernel) ?_
        refine pe_bipushv (n := 19) (v := 19) (by decide +kernel) (by decide +kernel) ?_
        refine pe_aload_n (j := 0) (by decide +kernel) rfl ?_
        refine pe_get (j := 7) (ci := 12) (n := 0) (by decide +kernel) (by decide +kernel) (md_o hc) rfl ?_
        refine pe_iload_n (j := 3) (by decide +kernel) rfl ?_
        refine mz_ld148 (by decide +kernel) hc hI hz11 (by omega) (by omega) (fun v19 ev19 pv19 => ?_)
        rw [ev19.trans ev15.symm]
        clear pv19 ev19 v19
        refine pz_add (by decide +kernel) kz_19 rfl (by omega) (by omega) (fun z20 hz20 => ?_)
        refine pi_S (j := 119) (mj := 199) (by decide +kernel) (by decide +kernel) rfl ?_
        show pmE pg X pg_tyl pg_cl (d + 1) 199 0 [.int x2, .int 20, .int z20] [] (md wc f A) _
        refine pe_iload_n (j := 0) (by decide +kernel) rfl ?_
        refine pe_iload_n (j := 1) (by decide +kernel) rfl ?_
        refine pz_icmp_lt (off := 12) (t := 14) (by decide +kernel) (by decide) rfl rfl kz_20 (fun h21 => ?_) (fun h21 => by omega)
        refine pe_iconstv (n := 0) (v := 0) (by decide +kernel) (by decide +kernel) ?_
        refine pe_iret (by decide +kernel) rfl rfl ⟨rfl, rfl, ?_⟩
        show pmE pg X pg_tyl pg_cl (d + 2) 219 83 [.ref 147, .int x1, .int x2, .int z11] [.int 0] (md wc f A) _
        refine pz_if_eq (off := 20) (t := 103) (by decide +kernel) (by decide) rfl kz_0 (fun h22 => ?_) (fun h22 => by omega)
        refine pe_iconstv (n := (-1)) (v := (-1)) (by decide +kernel) (by decide +kernel) ?_
        exact pe_iret (by decide +kernel) rfl rfl ⟨(-1), rfl, ⟨trivial, trivial⟩⟩
      · skip
        refine pe_iload_n (j := 0) (by decide +kernel) rfl ?_
        refine pe_iload_n (j := 2) (by decide +kernel) rfl ?_
        refine pz_icmp_gt (off := 7) (t := 14) (by decide +kernel) (by decide) rfl rfl kz_2 (fun h23 => ?_) (fun h23 => ?_)
        · skip
          refine pe_iconstv (n := 0) (v := 0) (by decide +kernel) (by decide +kernel) ?_
          refine pe_iret (by decide +kernel) rfl rfl ⟨rfl, rfl, ?_⟩
          show pmE pg X pg_tyl pg_cl (d + 2) 219 23 [.ref 147, .int x1, .int x2, .int z11] [.int 0] (md wc f A) _
          refine pz_if_eq (off := 12) (t := 35) (by decide +kernel) (by decide) rfl kz_0 (fun h24 => ?_) (fun h24 => by omega)
          refine pe_iload_n (j := 2) (by decide +kernel) rfl ?_
          refine pe_bipushv (n := 10) (v := 10) (by decide +kernel) (by decide +kernel) ?_
          refine pe_bipushv (n := 9) (v := 9) (by decide +kernel) (by decide +kernel) ?_
          refine pe_aload_n (j := 0) (by decide +kernel) rfl ?_
          refine pe_get (j := 7) (ci := 12) (n := 0) (by decide +kernel) (by decide +kernel) (md_o hc) rfl ?_
          refine pe_iload_n (j := 3) (by decide +kernel) rfl ?_
          refine mz_ld148 (by decide +kernel) hc hI hz11 (by omega) (by omega) (fun v25 ev25 pv25 => ?_)
          have rv25 : 0 ≤ v25.toInt ∧ v25.toInt ≤ 9 := MT_people pv25 (by omega)
          clear pv25
          refine pz_add (by decide +kernel) kz_9 rfl (by omega) (by omega) (fun z26 hz26 => ?_)
          refine pi_S (j := 119) (mj := 199) (by decide +kernel) (by decide +kernel) rfl ?_
          show pmE pg X pg_tyl pg_cl (d + 1) 199 0 [.int x2, .int 10, .int z26] [] (md wc f A) _
          refine pe_iload_n (j := 0) (by decide +kernel) rfl ?_
          refine pe_iload_n (j := 1) (by decide +kernel) rfl ?_
          refine pz_icmp_lt (off := 12) (t := 14) (by decide +kernel) (by decide) rfl rfl kz_10 (fun h27 => ?_) (fun h27 => ?_)
          · skip
            refine pe_iconstv (n := 0) (v := 0) (by decide +kernel) (by decide +kernel) ?_
            refine pe_iret (by decide +kernel) rfl rfl ⟨rfl, rfl, ?_⟩
            show pmE pg X pg_tyl pg_cl (d + 2) 219 50 [.ref 147, .int x1, .int x2, .int z11] [.int 0] (md wc f A) _
            refine pz_if_eq (off := 18) (t := 68) (by decide +kernel) (by decide) rfl kz_0 (fun h28 => ?_) (fun h28 => by omega)
            refine pe_iload_n (j := 2) (by decide +kernel) rfl ?_
            refine pe_bipushv (n := 20) (v := 20) (by decide +kernel) (by decide +kernel) ?_
            refine pe_bipushv (n := 19) (v := 19) (by decide +kernel) (by decide +kernel) ?_
            refine pe_aload_n (j := 0) (by decide +kernel) rfl ?_
            refine pe_get (j := 7) (ci := 12) (n := 0) (by decide +kernel) (by decide +kernel) (md_o hc) rfl ?_
            refine pe_iload_n (j := 3) (by decide +kernel) rfl ?_
            refine mz_ld148 (by decide +kernel) hc hI hz11 (by omega) (by omega) (fun v29 ev29 pv29 => ?_)
            rw [ev29.trans ev25.symm]
            clear pv29 ev29 v29
            refine pz_add (by decide +kernel) kz_19 rfl (by omega) (by omega) (fun z30 hz30 => ?_)
            refine pi_S (j := 119) (mj := 199) (by decide +kernel) (by decide +kernel) rfl ?_
            show pmE pg X pg_tyl pg_cl (d + 1) 199 0 [.int x2, .int 20, .int z30] [] (md wc f A) _
            refine pe_iload_n (j := 0) (by decide +kernel) rfl ?_
            refine pe_iload_n (j := 1) (by decide +kernel) rfl ?_
            refine pz_icmp_lt (off := 12) (t := 14) (by decide +kernel) (by decide) rfl rfl kz_20 (fun h31 => ?_) (fun h31 => by omega)
            refine pe_iconstv (n := 0) (v := 0) (by decide +kernel) (by decide +kernel) ?_
            refine pe_iret (by decide +kernel) rfl rfl ⟨rfl, rfl, ?_⟩
            show pmE pg X pg_tyl pg_cl (d + 2) 219 83 [.ref 147, .int x1, .int x2, .int z11] [.int 0] (md wc f A) _
            refine pz_if_eq (off := 20) (t := 103) (by decide +kernel) (by decide) rfl kz_0 (fun h32 => ?_) (fun h32 => by omega)
            refine pe_iconstv (n := (-1)) (v := (-1)) (by decide +kernel) (by decide +kernel) ?_
            exact pe_iret (by decide +kernel) rfl rfl ⟨(-1), rfl, ⟨trivial, trivial⟩⟩
          · skip
            refine pe_iload_n (j := 0) (by decide +kernel) rfl ?_
            refine pe_iload_n (j := 2) (by decide +kernel) rfl ?_
            refine pz_icmp_gt (off := 7) (t := 14) (by decide +kernel) (by decide) rfl rfl hz26 (fun h33 => ?_) (fun h33 => ?_)
            · skip
              refine pe_iconstv (n := 0) (v := 0) (by decide +kernel) (by decide +kernel) ?_
              refine pe_iret (by decide +kernel) rfl rfl ⟨rfl, rfl, ?_⟩
              show pmE pg X pg_tyl pg_cl (d + 2) 219 50 [.ref 147, .int x1, .int x2, .int z11] [.int 0] (md wc f A) _
              refine pz_if_eq (off := 18) (t := 68) (by decide +kernel) (by decide) rfl kz_0 (fun h34 => ?_) (fun h34 => by omega)
              refine pe_iload_n (j := 2) (by decide +kernel) rfl ?_
              refine pe_bipushv (n := 20) (v := 20) (by decide +kernel) (by decide +kernel) ?_
              refine pe_bipushv (n := 19) (v := 19) (by decide +kernel) (by decide +kernel) ?_
              refine pe_aload_n (j := 0) (by decide +kernel) rfl ?_
              refine pe_get (j := 7) (ci := 12) (n := 0) (by decide +kernel) (by decide +kernel) (md_o hc) rfl ?_
              refine pe_iload_n (j := 3) (by decide +kernel) rfl ?_
              refine mz_ld148 (by decide +kernel) hc hI hz11 (by omega) (by omega) (fun v35 ev35 pv35 => ?_)
              rw [ev35.trans ev25.symm]
              clear pv35 ev35 v35
              refine pz_add (by decide +kernel) kz_19 rfl (by omega) (by omega) (fun z36 hz36 => ?_)
              refine pi_S (j := 119) (mj := 199) (by decide +kernel) (by decide +kernel) rfl ?_
              show pmE pg X pg_tyl pg_cl (d + 1) 199 0 [.int x2, .int 20, .int z36] [] (md wc f A) _
              refine pe_iload_n (j := 0) (by decide +kernel) rfl ?_
              refine pe_iload_n (j := 1) (by decide +kernel) rfl ?_
              refine pz_icmp_lt (off := 12) (t := 14) (by decide +kernel) (by decide) rfl rfl kz_20 (fun h37 => ?_) (fun h37 => ?_)
              · skip
                refine pe_iconstv (n := 0) (v := 0) (by decide +kernel) (by decide +kernel) ?_
                refine pe_iret (by decide +kernel) rfl rfl ⟨rfl, rfl, ?_⟩
                show pmE pg X pg_tyl pg_cl (d + 2) 219 83 [.ref 147, .int x1, .int x2, .int z11] [.int 0] (md wc f A) _
                refine pz_if_eq (off := 20) (t := 103) (by decide +kernel) (by decide) rfl kz_0 (fun h38 => ?_) (fun h38 => by omega)
                refine pe_iconstv (n := (-1)) (v := (-1)) (by decide +kernel) (by decide +kernel) ?_
                exact pe_iret (by decide +kernel) rfl rfl ⟨(-1), rfl, ⟨trivial, trivial⟩⟩
              · skip
                refine pe_iload_n (j := 0) (by decide +kernel) rfl ?_
                refine pe_iload_n (j := 2) (by decide +kernel) rfl ?_
                refine pz_icmp_gt (off := 7) (t := 14) (by decide +kernel) (by decide) rfl rfl hz36 (fun h39 => ?_) (fun h39 => ?_)
                · skip
                  refine pe_iconstv (n := 0) (v := 0) (by decide +kernel) (by decide +kernel) ?_
                  refine pe_iret (by decide +kernel) rfl rfl ⟨rfl, rfl, ?_⟩
                  show pmE pg X pg_tyl pg_cl (d + 2) 219 83 [.ref 147, .int x1, .int x2, .int z11] [.int 0] (md wc f A) _
                  refine pz_if_eq (off := 20) (t := 103) (by decide +kernel) (by decide) rfl kz_0 (fun h40 => ?_) (fun h40 => by omega)
                  refine pe_iconstv (n := (-1)) (v := (-1)) (by decide +kernel) (by decide +kernel) ?_
                  exact pe_iret (by decide +kernel) rfl rfl ⟨(-1), rfl, ⟨trivial, trivial⟩⟩
                · skip
                  refine pe_iconstv (n := 1) (v := 1) (by decide +kernel) (by decide +kernel) ?_
                  refine pe_goto (off := 4) (t := 15) (by decide +kernel) (by decide) rfl ?_
                  refine pe_iret (by decide +kernel) rfl rfl ⟨rfl, rfl, ?_⟩
                  show pmE pg X pg_tyl pg_cl (d + 2) 219 83 [.ref 147, .int x1, .int x2, .int z11] [.int 1] (md wc f A) _
                  refine pz_if_eq (off := 20) (t := 103) (by decide +kernel) (by decide) rfl kz_1 (fun h41 => by omega) (fun h41 => ?_)
                  refine pe_aload_n (j := 0) (by decide +kernel) rfl ?_
                  refine pe_get (j := 7) (ci := 12) (n := 0) (by decide +kernel) (by decide +kernel) (md_o hc) rfl ?_
                  refine pe_iload_n (j := 3) (by decide +kernel) rfl ?_
                  refine pe_bipushv (n := 93) (v := 93) (by decide +kernel) (by decide +kernel) ?_
                  refine pz_add (by decide +kernel) hz11 kz_93 (by omega) (by omega) (fun z42 hz42 => ?_)
                  refine pe_iload_n (j := 2) (by decide +kernel) rfl ?_
                  refine pz_add (by decide +kernel) hz42 rfl (by omega) (by omega) (fun z43 hz43 => ?_)
                  clear hz42
                  refine pe_bipushv (n := 20) (v := 20) (by decide +kernel) (by decide +kernel) ?_
                  refine pz_sub (by decide +kernel) hz43 kz_20 (by omega) (by omega) (fun z44 hz44 => ?_)
                  clear hz43
                  refine mz_ld148 (by decide +kernel) hc hI hz44 (by omega) (by omega) (fun v45 ev45 pv45 => ?_)
                  clear pv45
                  clear hz44
                  refine pe_goto (off := 4) (t := 104) (by decide +kernel) (by decide) rfl ?_
                  exact pe_iret (by decide +kernel) rfl rfl ⟨v45, rfl, ⟨trivial, trivial⟩⟩
            · skip
              refine pe_iconstv (n := 1) (v := 1) (by decide +kernel) (by decide +kernel) ?_
              refine pe_goto (off := 4) (t := 15) (by decide +kernel) (by decide) rfl ?_
              refine pe_iret (by decide +kernel) rfl rfl ⟨rfl, rfl, ?_⟩
              show pmE pg X pg_tyl pg_cl (d + 2) 219 50 [.ref 147, .int x1, .int x2, .int z11] [.int 1] (md wc f A) _
              refine pz_if_eq (off := 18) (t := 68) (by decide +kernel) (by decide) rfl kz_1 (fun h46 => by omega) (fun h46 => ?_)
              refine pe_aload_n (j := 0) (by decide +kernel) rfl ?_
              refine pe_get (j := 7) (ci := 12) (n := 0) (by decide +kernel) (by decide +kernel) (md_o hc) rfl ?_
              refine pe_iload_n (j := 3) (by decide +kernel) rfl ?_
              refine pe_bipushv (n := 84) (v := 84) (by decide +kernel) (by decide +kernel) ?_
              refine pz_add (by decide +kernel) hz11 kz_84 (by omega) (by omega) (fun z47 hz47 => ?_)
              refine pe_iload_n (j := 2) (by decide +kernel) rfl ?_
              refine pz_add (by decide +kernel) hz47 rfl (by omega) (by omega) (fun z48 hz48 => ?_)
              clear hz47
              refine pe_bipushv (n := 10) (v := 10) (by decide +kernel) (by decide +kernel) ?_
              refine pz_sub (by decide +kernel) hz48 kz_10 (by omega) (by omega) (fun z49 hz49 => ?_)
              clear hz48
              refine mz_ld148 (by decide +kernel) hc hI hz49 (by omega) (by omega) (fun v50 ev50 pv50 => ?_)
              clear pv50
              clear hz49
              exact pe_iret (by decide +kernel) rfl rfl ⟨v50, rfl, ⟨trivial, trivial⟩⟩
        · skip
          refine pe_iconstv (n := 1) (v := 1) (by decide +kernel) (by decide +kernel) ?_
          refine pe_goto (off := 4) (t := 15) (by decide +kernel) (by decide) rfl ?_
          refine pe_iret (by decide +kernel) rfl rfl ⟨rfl, rfl, ?_⟩
          show pmE pg X pg_tyl pg_cl (d + 2) 219 23 [.ref 147, .int x1, .int x2, .int z11] [.int 1] (md wc f A) _
          refine pz_if_eq (off := 12) (t := 35) (by decide +kernel) (by decide) rfl kz_1 (fun h51 => by omega) (fun h51 => ?_)
          refine pe_aload_n (j := 0) (by decide +kernel) rfl ?_
          refine pe_get (j := 7) (ci := 12) (n := 0) (by decide +kernel) (by decide +kernel) (md_o hc) rfl ?_
          refine pe_iload_n (j := 3) (by decide +kernel) rfl ?_
          refine pe_iload_n (j := 2) (by decide +kernel) rfl ?_
          refine pz_add (by decide +kernel) hz11 rfl (by omega) (by omega) (fun z52 hz52 => ?_)
          refine mz_ld148 (by decide +kernel) hc hI hz52 (by omega) (by omega) (fun v53 ev53 pv53 => ?_)
          clear pv53
          clear hz52
          exact pe_iret (by decide +kernel) rfl rfl ⟨v53, rfl, ⟨trivial, trivial⟩⟩
set_option maxRecDepth 100000 in
set_option maxHeartbeats 8000000 in
theorem MM_220 {X : pm_X} {d : Nat} {wc : pm_W} {f : Nat → Int32} {A : Nat → List Int32} {x1 x2 x3 : Int32} (hc : wc.length = 147) (hI : MI f A) : pmE pg X pg_tyl pg_cl (d + 2) 220 0 (pm_ent (pm_max pg 220) [.ref 147, .int x1, .int x2, .int x3]) [] (md wc f A) (fun q => ∃ (r : Int32), q = (some (.int r), md wc f A, 0, 0) ∧ ((True ∧ True))) := by
  show pmE pg X pg_tyl pg_cl (d + 2) 220 0 [.ref 147, .int x1, .int x2, .int x3] [] (md wc f A) _
  refine pe_aload_n (j := 0) (by decide +kernel) rfl ?_
  refine pe_iconstv (n := 0) (v := 0) (by decide +kernel) (by decide +kernel) ?_
  refine pe_iload_n (j := 1) (by decide +kernel) rfl ?_
  refine pi_V (j := 153) (mj := 200) (by decide +kernel) (cll_V (args := [.int x1, .int 0]) (n := 2) (by decide +kernel) rfl rfl (md_o hc) (by decide +kernel) (Nat.le_of_ble_eq_true rfl) (Nat.le_of_ble_eq_true rfl)) ?_
  show pmE pg X pg_tyl pg_cl (d + 1) 200 0 [.ref 147, .int 0, .int x1] [] (md wc f A) _
  refine pe_iload_n (j := 2) (by decide +kernel) rfl ?_
  refine pe_iconstv (n := 0) (v := 0) (by decide +kernel) (by decide +kernel) ?_
  refine pe_aload_n (j := 0) (by decide +kernel) rfl ?_
  refine pe_get (j := 7) (ci := 12) (n := 0) (by decide +kernel) (by decide +kernel) (md_o hc) rfl ?_
  refine pe_iload_n (j := 1) (by decide +kernel) rfl ?_
  refine mz_ld148 (by decide +kernel) hc hI kz_0 (by omega) (by omega) (fun v1 ev1 pv1 => ?_)
  have rv1 : 0 ≤ v1.toInt ∧ v1.toInt ≤ 2 := MT_c0 pv1 (by omega)
  clear pv1
  refine pe_iconstv (n := 1) (v := 1) (by decide +kernel) (by decide +kernel) ?_
  refine pz_sub (by decide +kernel) rfl kz_1 (by omega) (by omega) (fun z2 hz2 => ?_)
  refine pi_S (j := 119) (mj := 199) (by decide +kernel) (by decide +kernel) rfl ?_
  show pmE pg X pg_tyl pg_cl (d) 199 0 [.int x1, .int 0, .int z2] [] (md wc f A) _
  refine pe_iload_n (j := 0) (by decide +kernel) rfl ?_
  refine pe_iload_n (j := 1) (by decide +kernel) rfl ?_
  have lw4 := zi_lo x1
  have uw4 := zi_hi x1
  refine pz_icmp_lt (off := 12) (t := 14) (by decide +kernel) (by decide) rfl rfl kz_0 (fun h3 => ?_) (fun h3 => ?_)
  · skip
    refine pe_iconstv (n := 0) (v := 0) (by decide +kernel) (by decide +kernel) ?_
    refine pe_iret (by decide +kernel) rfl rfl ⟨rfl, rfl, ?_⟩
    show pmE pg X pg_tyl pg_cl (d + 1) 200 13 [.ref 147, .int 0, .int x1] [.int 0] (md wc f A) _
    refine pe_iret (by decide +kernel) rfl rfl ⟨rfl, rfl, ?_⟩
    show pmE pg X pg_tyl pg_cl (d + 2) 220 6 [.ref 147, .int x1, .int x2, .int x3] [.int 0] (md wc f A) _
    refine pz_if_eq (off := 29) (t := 35) (by decide +kernel) (by decide) rfl kz_0 (fun h5 => ?_) (fun h5 => by omega)
    refine pe_iconstv (n := (-1)) (v := (-1)) (by decide +kernel) (by decide +kernel) ?_
    exact pe_iret (by decide +kernel) rfl rfl ⟨(-1), rfl, ⟨trivial, trivial⟩⟩
  · skip
    refine pe_iload_n (j := 0) (by decide +kernel) rfl ?_
    refine pe_iload_n (j := 2) (by decide +kernel) rfl ?_
    refine pz_icmp_gt (off := 7) (t := 14) (by decide +kernel) (by decide) rfl rfl hz2 (fun h6 => ?_) (fun h6 => ?_)
    · skip
      refine pe_iconstv (n := 0) (v := 0) (by decide +kernel) (by decide +kernel) ?_
      refine pe_iret (by decide +kernel) rfl rfl ⟨rfl, rfl, ?_⟩
      show pmE pg X pg_tyl pg_cl (d + 1) 200 13 [.ref 147, .int 0, .int x1] [.int 0] (md wc f A) _
      refine pe_iret (by decide +kernel) rfl rfl ⟨rfl, rfl, ?_⟩
      show pmE pg X pg_tyl pg_cl (d + 2) 220 6 [.ref 147, .int x1, .int x2, .int x3] [.int 0] (md wc f A) _
      refine pz_if_eq (off := 29) (t := 35) (by decide +kernel) (by decide) rfl kz_0 (fun h7 => ?_) (fun h7 => by omega)
      refine pe_iconstv (n := (-1)) (v := (-1)) (by decide +kernel) (by decide +kernel) ?_
      exact pe_iret (by decide +kernel) rfl rfl ⟨(-1), rfl, ⟨trivial, trivial⟩⟩
    · skip
      refine pe_iconstv (n := 1) (v := 1) (by decide +kernel) (by decide +kernel) ?_
      refine pe_goto (off := 4) (t := 15) (by decide +kernel) (by decide) rfl ?_
      refine pe_iret (by decide +kernel) rfl rfl ⟨rfl, rfl, ?_⟩
      show pmE pg X pg_tyl pg_cl (d + 1) 200 13 [.ref 147, .int 0, .int x1] [.int 1] (md wc f A) _
      refine pe_iret (by decide +kernel) rfl rfl ⟨rfl, rfl, ?_⟩
      show pmE pg X pg_tyl pg_cl (d + 2) 220 6 [.ref 147, .int x1, .int x2, .int x3] [.int 1] (md wc f A) _
      refine pz_if_eq (off := 29) (t := 35) (by decide +kernel) (by decide) rfl kz_1 (fun h8 => by omega) (fun h8 => ?_)
      refine pe_aload_n (j := 0) (by decide +kernel) rfl ?_
      refine pe_iconstv (n := 0) (v := 0) (by decide +kernel) (by decide +kernel) ?_
      refine pe_iload_n (j := 1) (by decide +kernel) rfl ?_
      refine pi_S (j := 163) (mj := 217) (by decide +kernel) (by decide +kernel) rfl ?_
      show pmE pg X pg_tyl pg_cl (d + 1) 217 0 [.int 0, .int x1] [] (md wc f A) _
      refine pe_iload_n (j := 0) (by decide +kernel) rfl ?_
      refine pz_if_ne (off := 15) (t := 16) (by decide +kernel) (by decide) rfl kz_0 (fun h9 => by omega) (fun h9 => ?_)
      refine pe_sipushv (n := 610) (v := 610) (by decide +kernel) (by decide +kernel) ?_
      refine pe_sipushv (n := 132) (v := 132) (by decide +kernel) (by decide +kernel) ?_
      refine pe_iload_n (j := 1) (by decide +kernel) rfl ?_
      refine pz_mul (by decide +kernel) kz_132 rfl (by omega) (by omega) (fun z10 hz10 => ?_)
      refine pz_add (by decide +kernel) kz_610 hz10 (by omega) (by omega) (fun z11 hz11 => ?_)
      clear hz10
      refine pe_goto (off := 12) (t := 25) (by decide +kernel) (by decide) rfl ?_
      refine pe_iret (by decide +kernel) rfl rfl ⟨rfl, rfl, ?_⟩
      show pmE pg X pg_tyl pg_cl (d + 2) 220 15 [.ref 147, .int x1, .int x2, .int x3] [.int z11, .ref 147] (md wc f A) _
      refine pe_iload_n (j := 2) (by decide +kernel) rfl ?_
      refine pi_V (j := 166) (mj := 221) (by decide +kernel) (cll_V (args := [.int x2, .int z11]) (n := 2) (by decide +kernel) rfl rfl (md_o hc) (by decide +kernel) (Nat.le_of_ble_eq_true rfl) (Nat.le_of_ble_eq_true rfl)) ?_
      show pmE pg X pg_tyl pg_cl (d + 1) 221 0 [.ref 147, .int z11, .int x2] [] (md wc f A) _
      refine pe_iload_n (j := 2) (by decide +kernel) rfl ?_
      refine pe_iconstv (n := 0) (v := 0) (by decide +kernel) (by decide +kernel) ?_
      refine pe_aload_n (j := 0) (by decide +kernel) rfl ?_
      refine pe_get (j := 7) (ci := 12) (n := 0) (by decide +kernel) (by decide +kernel) (md_o hc) rfl ?_
      refine pe_iload_n (j := 1) (by decide +kernel) rfl ?_
      refine mz_ld148 (by decide +kernel) hc hI hz11 (by omega) (by omega) (fun v12 ev12 pv12 => ?_)
      have rv12 : 0 ≤ v12.toInt ∧ v12.toInt ≤ 9 := MT_people pv12 (by omega)
      clear pv12
      refine pe_iconstv (n := 1) (v := 1) (by decide +kernel) (by decide +kernel) ?_
      refine pz_sub (by decide +kernel) rfl kz_1 (by omega) (by omega) (fun z13 hz13 => ?_)
      refine pi_S (j := 119) (mj := 199) (by decide +kernel) (by decide +kernel) rfl ?_
      show pmE pg X pg_tyl pg_cl (d) 199 0 [.int x2, .int 0, .int z13] [] (md wc f A) _
      refine pe_iload_n (j := 0) (by decide +kernel) rfl ?_
      refine pe_iload_n (j := 1) (by decide +kernel) rfl ?_
      have lw15 := zi_lo x2
      have uw15 := zi_hi x2
      refine pz_icmp_lt (off := 12) (t := 14) (by decide +kernel) (by decide) rfl rfl kz_0 (fun h14 => ?_) (fun h14 => ?_)
      · skip
        refine pe_iconstv (n := 0) (v := 0) (by decide +kernel) (by decide +kernel) ?_
        refine pe_iret (by decide +kernel) rfl rfl ⟨rfl, rfl, ?_⟩
        show pmE pg X pg_tyl pg_cl (d + 1) 221 13 [.ref 147, .int z11, .int x2] [.int 0] (md wc f A) _
        refine pe_iret (by decide +kernel) rfl rfl ⟨rfl, rfl, ?_⟩
        show pmE pg X pg_tyl pg_cl (d + 2) 220 19 [.ref 147, .int x1, .int x2, .int x3] [.int 0] (md wc f A) _
        refine pz_if_eq (off := 16) (t := 35) (by decide +kernel) (by decide) rfl kz_0 (fun h16 => ?_) (fun h16 => by omega)
        refine pe_iconstv (n := (-1)) (v := (-1)) (by decide +kernel) (by decide +kernel) ?_
        exact pe_iret (by decide +kernel) rfl rfl ⟨(-1), rfl, ⟨trivial, trivial⟩⟩
      · skip
        refine pe_iload_n (j := 0) (by decide +kernel) rfl ?_
        refine pe_iload_n (j := 2) (by decide +kernel) rfl ?_
        refine pz_icmp_gt (off := 7) (t := 14) (by decide +kernel) (by decide) rfl rfl hz13 (fun h17 => ?_) (fun h17 => ?_)
        · skip
          refine pe_iconstv (n := 0) (v := 0) (by decide +kernel) (by decide +kernel) ?_
          refine pe_iret (by decide +kernel) rfl rfl ⟨rfl, rfl, ?_⟩
          show pmE pg X pg_tyl pg_cl (d + 1) 221 13 [.ref 147, .int z11, .int x2] [.int 0] (md wc f A) _
          refine pe_iret (by decide +kernel) rfl rfl ⟨rfl, rfl, ?_⟩
          show pmE pg X pg_tyl pg_cl (d + 2) 220 19 [.ref 147, .int x1, .int x2, .int x3] [.int 0] (md wc f A) _
          refine pz_if_eq (off := 16) (t := 35) (by decide +kernel) (by decide) rfl kz_0 (fun h18 => ?_) (fun h18 => by omega)
          refine pe_iconstv (n := (-1)) (v := (-1)) (by decide +kernel) (by decide +kernel) ?_
          exact pe_iret (by decide +kernel) rfl rfl ⟨(-1), rfl, ⟨trivial, trivial⟩⟩
        · skip
          refine pe_iconstv (n := 1) (v := 1) (by decide +kernel) (by decide +kernel) ?_
          refine pe_goto (off := 4) (t := 15) (by decide +kernel) (by decide) rfl ?_
          refine pe_iret (by decide +kernel) rfl rfl ⟨rfl, rfl, ?_⟩
          show pmE pg X pg_tyl pg_cl (d + 1) 221 13 [.ref 147, .int z11, .int x2] [.int 1] (md wc f A) _
          refine pe_iret (by decide +kernel) rfl rfl ⟨rfl, rfl, ?_⟩
          show pmE pg X pg_tyl pg_cl (d + 2) 220 19 [.ref 147, .int x1, .int x2, .int x3] [.int 1] (md wc f A) _
          refine pz_if_eq (off := 16) (t := 35) (by decide +kernel) (by decide) rfl kz_1 (fun h19 => by omega) (fun h19 => ?_)
          refine pe_aload_n (j := 0) (by decide +kernel) rfl ?_
          refine pe_iconstv (n := 0) (v := 0) (by decide +kernel) (by decide +kernel) ?_
          refine pe_iload_n (j := 1) (by decide +kernel) rfl ?_
          refine pi_S (j := 163) (mj := 217) (by decide +kernel) (by decide +kernel) rfl ?_
          show pmE pg X pg_tyl pg_cl (d + 1) 217 0 [.int 0, .int x1] [] (md wc f A) _
          refine pe_iload_n (j := 0) (by decide +kernel) rfl ?_
          refine pz_if_ne (off := 15) (t := 16) (by decide +kernel) (by decide) rfl kz_0 (fun h20 => by omega) (fun h20 => ?_)
          refine pe_sipushv (n := 610) (v := 610) (by decide +kernel) (by decide +kernel) ?_
          refine pe_sipushv (n := 132) (v := 132) (by decide +kernel) (by decide +kernel) ?_
          refine pe_iload_n (j := 1) (by decide +kernel) rfl ?_
          refine pz_mul (by decide +kernel) kz_132 rfl (by omega) (by omega) (fun z21 hz21 => ?_)
          refine pz_add (by decide +kernel) kz_610 hz21 (by omega) (by omega) (fun z22 hz22 => ?_)
          clear hz21
          refine pe_goto (off := 12) (t := 25) (by decide +kernel) (by decide) rfl ?_
          refine pe_iret (by decide +kernel) rfl rfl ⟨rfl, rfl, ?_⟩
          show pmE pg X pg_tyl pg_cl (d + 2) 220 28 [.ref 147, .int x1, .int x2, .int x3] [.int z22, .ref 147] (md wc f A) _
          refine pe_iload_n (j := 3) (by decide +kernel) rfl ?_
          refine pi_V (j := 166) (mj := 221) (by decide +kernel) (cll_V (args := [.int x3, .int z22]) (n := 2) (by decide +kernel) rfl rfl (md_o hc) (by decide +kernel) (Nat.le_of_ble_eq_true rfl) (Nat.le_of_ble_eq_true rfl)) ?_
          show pmE pg X pg_tyl pg_cl (d + 1) 221 0 [.ref 147, .int z22, .int x3] [] (md wc f A) _
          refine pe_iload_n (j := 2) (by decide +kernel) rfl ?_
          refine pe_iconstv (n := 0) (v := 0) (by decide +kernel) (by decide +kernel) ?_
          refine pe_aload_n (j := 0) (by decide +kernel) rfl ?_
          refine pe_get (j := 7) (ci := 12) (n := 0) (by decide +kernel) (by decide +kernel) (md_o hc) rfl ?_
          refine pe_iload_n (j := 1) (by decide +kernel) rfl ?_
          refine mz_ld148 (by decide +kernel) hc hI hz22 (by omega) (by omega) (fun v23 ev23 pv23 => ?_)
          rw [ev23.trans ev12.symm]
          clear pv23 ev23 v23
          refine pe_iconstv (n := 1) (v := 1) (by decide +kernel) (by decide +kernel) ?_
          refine pz_sub (by decide +kernel) rfl kz_1 (by omega) (by omega) (fun z24 hz24 => ?_)
          refine pi_S (j := 119) (mj := 199) (by decide +kernel) (by decide +kernel) rfl ?_
          show pmE pg X pg_tyl pg_cl (d) 199 0 [.int x3, .int 0, .int z24] [] (md wc f A) _
          refine pe_iload_n (j := 0) (by decide +kernel) rfl ?_
          refine pe_iload_n (j := 1) (by decide +kernel) rfl ?_
          have lw26 := zi_lo x3
          have uw26 := zi_hi x3
          refine pz_icmp_lt (off := 12) (t := 14) (by decide +kernel) (by decide) rfl rfl kz_0 (fun h25 => ?_) (fun h25 => ?_)
          · skip
            refine pe_iconstv (n := 0) (v := 0) (by decide +kernel) (by decide +kernel) ?_
            refine pe_iret (by decide +kernel) rfl rfl ⟨rfl, rfl, ?_⟩
            show pmE pg X pg_tyl pg_cl (d + 1) 221 13 [.ref 147, .int z22, .int x3] [.int 0] (md wc f A) _
            refine pe_iret (by decide +kernel) rfl rfl ⟨rfl, rfl, ?_⟩
            show pmE pg X pg_tyl pg_cl (d + 2) 220 32 [.ref 147, .int x1, .int x2, .int x3] [.int 0] (md wc f A) _
            refine pz_if_ne (off := 5) (t := 37) (by decide +kernel) (by decide) rfl kz_0 (fun h27 => by omega) (fun h27 => ?_)
            refine pe_iconstv (n := (-1)) (v := (-1)) (by decide +kernel) (by decide +kernel) ?_
            exact pe_iret (by decide +kernel) rfl rfl ⟨(-1), rfl, ⟨trivial, trivial⟩⟩
          · skip
            refine pe_iload_n (j := 0) (by decide +kernel) rfl ?_
            refine pe_iload_n (j := 2) (by decide +kernel) rfl ?_
            refine pz_icmp_gt (off := 7) (t := 14) (by decide +kernel) (by decide) rfl rfl hz24 (fun h28 => ?_) (fun h28 => ?_)
            · skip
              refine pe_iconstv (n := 0) (v := 0) (by decide +kernel) (by decide +kernel) ?_
              refine pe_iret (by decide +kernel) rfl rfl ⟨rfl, rfl, ?_⟩
              show pmE pg X pg_tyl pg_cl (d + 1) 221 13 [.ref 147, .int z22, .int x3] [.int 0] (md wc f A) _
              refine pe_iret (by decide +kernel) rfl rfl ⟨rfl, rfl, ?_⟩
              show pmE pg X pg_tyl pg_cl (d + 2) 220 32 [.ref 147, .int x1, .int x2, .int x3] [.int 0] (md wc f A) _
              refine pz_if_ne (off := 5) (t := 37) (by decide +kernel) (by decide) rfl kz_0 (fun h29 => by omega) (fun h29 => ?_)
              refine pe_iconstv (n := (-1)) (v := (-1)) (by decide +kernel) (by decide +kernel) ?_
              exact pe_iret (by decide +kernel) rfl rfl ⟨(-1), rfl, ⟨trivial, trivial⟩⟩
            · skip
              refine pe_iconstv (n := 1) (v := 1) (by decide +kernel) (by decide +kernel) ?_
              refine pe_goto (off := 4) (t := 15) (by decide +kernel) (by decide) rfl ?_
              refine pe_iret (by decide +kernel) rfl rfl ⟨rfl, rfl, ?_⟩
              show pmE pg X pg_tyl pg_cl (d + 1) 221 13 [.ref 147, .int z22, .int x3] [.int 1] (md wc f A) _
              refine pe_iret (by decide +kernel) rfl rfl ⟨rfl, rfl, ?_⟩
              show pmE pg X pg_tyl pg_cl (d + 2) 220 32 [.ref 147, .int x1, .int x2, .int x3] [.int 1] (md wc f A) _
              refine pz_if_ne (off := 5) (t := 37) (by decide +kernel) (by decide) rfl kz_1 (fun h30 => ?_) (fun h30 => by omega)
              refine pe_aload_n (j := 0) (by decide +kernel) rfl ?_
              refine pe_get (j := 7) (ci := 12) (n := 0) (by decide +kernel) (by decide +kernel) (md_o hc) rfl ?_
              refine pe_iconstv (n := 0) (v := 0) (by decide +kernel) (by decide +kernel) ?_
              refine pe_iload_n (j := 1) (by decide +kernel) rfl ?_
              refine pi_S (j := 163) (mj := 217) (by decide +kernel) (by decide +kernel) rfl ?_
              show pmE pg X pg_tyl pg_cl (d + 1) 217 0 [.int 0, .int x1] [] (md wc f A) _
              refine pe_iload_n (j := 0) (by decide +kernel) rfl ?_
              refine pz_if_ne (off := 15) (t := 16) (by decide +kernel) (by decide) rfl kz_0 (fun h31 => by omega) (fun h31 => ?_)
              refine pe_sipushv (n := 610) (v := 610) (by decide +kernel) (by decide +kernel) ?_
              refine pe_sipushv (n := 132) (v := 132) (by decide +kernel) (by decide +kernel) ?_
              refine pe_iload_n (j := 1) (by decide +kernel) rfl ?_
              refine pz_mul (by decide +kernel) kz_132 rfl (by omega) (by omega) (fun z32 hz32 => ?_)
              refine pz_add (by decide +kernel) kz_610 hz32 (by omega) (by omega) (fun z33 hz33 => ?_)
              clear hz32
              refine pe_goto (off := 12) (t := 25) (by decide +kernel) (by decide) rfl ?_
              refine pe_iret (by decide +kernel) rfl rfl ⟨rfl, rfl, ?_⟩
              show pmE pg X pg_tyl pg_cl (d + 2) 220 46 [.ref 147, .int x1, .int x2, .int x3] [.int z33, .ref 148] (md wc f A) _
              refine pe_iconstv (n := 3) (v := 3) (by decide +kernel) (by decide +kernel) ?_
              refine pz_add (by decide +kernel) hz33 kz_3 (by omega) (by omega) (fun z34 hz34 => ?_)
              clear hz33
              refine pe_bipushv (n := 9) (v := 9) (by decide +kernel) (by decide +kernel) ?_
              refine pe_iload_n (j := 2) (by decide +kernel) rfl ?_
              refine pz_mul (by decide +kernel) kz_9 rfl (by omega) (by omega) (fun z35 hz35 => ?_)
              refine pz_add (by decide +kernel) hz34 hz35 (by omega) (by omega) (fun z36 hz36 => ?_)
              clear hz34 hz35
              refine pe_iload_n (j := 3) (by decide +kernel) rfl ?_
              refine pz_add (by decide +kernel) hz36 rfl (by omega) (by omega) (fun z37 hz37 => ?_)
              clear hz36
              refine mz_ld148 (by decide +kernel) hc hI hz37 (by omega) (by omega) (fun v38 ev38 pv38 => ?_)
              clear pv38
              clear hz37
              exact pe_iret (by decide +kernel) rfl rfl ⟨v38, rfl, ⟨trivial, trivial⟩⟩
