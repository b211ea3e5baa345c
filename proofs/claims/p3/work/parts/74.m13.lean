set_option maxRecDepth 100000 in
set_option maxHeartbeats 8000000 in
theorem MM_218 {X : pm_X} {d : Nat} {wc : pm_W} {f : Nat → Int32} {A : Nat → List Int32} {x1 : Int32} (hc : wc.length = 147) (hI : MI f A) : pmE pg X pg_tyl pg_cl (d) 218 0 (pm_ent (pm_max pg 218) [.ref 147, .int x1]) [] (md wc f A) (fun q => ∃ (r : Int32), q = (some (.int r), md wc f A, 0, 0) ∧ ((True ∧ True))) := by
  show pmE pg X pg_tyl pg_cl (d) 218 0 [.ref 147, .int x1] [] (md wc f A) _
  refine pe_iload_n (j := 1) (by decide +kernel) rfl ?_
  refine pz_if_ne (off := 12) (t := 13) (by decide +kernel) (by decide) rfl rfl (fun h1 => ?_) (fun h1 => ?_)
  · skip
    refine pe_iload_n (j := 1) (by decide +kernel) rfl ?_
    refine pe_iconstv (n := 1) (v := 1) (by decide +kernel) (by decide +kernel) ?_
    refine pz_icmp_ne (off := 12) (t := 27) (by decide +kernel) (by decide) rfl rfl kz_1 (fun h2 => ?_) (fun h2 => ?_)
    · skip
      refine pe_iconstv (n := (-1)) (v := (-1)) (by decide +kernel) (by decide +kernel) ?_
      exact pe_iret (by decide +kernel) rfl rfl ⟨(-1), rfl, ⟨trivial, trivial⟩⟩
    · skip
      refine pe_aload_n (j := 0) (by decide +kernel) rfl ?_
      refine pe_get (j := 7) (ci := 12) (n := 0) (by decide +kernel) (by decide +kernel) (md_o hc) rfl ?_
      refine pe_iconstv (n := 4) (v := 4) (by decide +kernel) (by decide +kernel) ?_
      refine mz_ld148 (by decide +kernel) hc hI kz_4 (by omega) (by omega) (fun v3 ev3 pv3 => ?_)
      clear pv3
      refine pe_goto (off := 4) (t := 28) (by decide +kernel) (by decide) rfl ?_
      exact pe_iret (by decide +kernel) rfl rfl ⟨v3, rfl, ⟨trivial, trivial⟩⟩
  · skip
    refine pe_aload_n (j := 0) (by decide +kernel) rfl ?_
    refine pe_get (j := 7) (ci := 12) (n := 0) (by decide +kernel) (by decide +kernel) (md_o hc) rfl ?_
    refine pe_iconstv (n := 3) (v := 3) (by decide +kernel) (by decide +kernel) ?_
    refine mz_ld148 (by decide +kernel) hc hI kz_3 (by omega) (by omega) (fun v4 ev4 pv4 => ?_)
    clear pv4
    refine pe_goto (off := 18) (t := 28) (by decide +kernel) (by decide) rfl ?_
    exact pe_iret (by decide +kernel) rfl rfl ⟨v4, rfl, ⟨trivial, trivial⟩⟩
set_option maxRecDepth 100000 in
set_option maxHeartbeats 8000000 in
theorem MM_315 {X : pm_X} {d : Nat} {wc : pm_W} {f : Nat → Int32} {A : Nat → List Int32} {x1 : Int32} (hc : wc.length = 147) (hI : MI f A) : pmE pg X pg_tyl pg_cl (d + 1) 315 0 (pm_ent (pm_max pg 315) [.ref 147, .int x1]) [] (md wc f A) (fun q => ∃ (r : Int32), q = (some (.int r), md wc f A, 0, 0) ∧ ((((-2) ≤ r.toInt ∧ r.toInt ≤ 3) ∧ True))) := by
  show pmE pg X pg_tyl pg_cl (d + 1) 315 0 [.ref 147, .int x1] [] (md wc f A) _
  refine pe_iload_n (j := 1) (by decide +kernel) rfl ?_
  refine pe_iconstv (n := 0) (v := 0) (by decide +kernel) (by decide +kernel) ?_
  refine pe_iconstv (n := 1) (v := 1) (by decide +kernel) (by decide +kernel) ?_
  refine pi_S (j := 119) (mj := 199) (by decide +kernel) (by decide +kernel) rfl ?_
  show pmE pg X pg_tyl pg_cl (d) 199 0 [.int x1, .int 0, .int 1] [] (md wc f A) _
  refine pe_iload_n (j := 0) (by decide +kernel) rfl ?_
  refine pe_iload_n (j := 1) (by decide +kernel) rfl ?_
  refine pz_icmp_lt (off := 12) (t := 14) (by decide +kernel) (by decide) rfl rfl kz_0 (fun h1 => ?_) (fun h1 => ?_)
  · skip
    refine pe_iconstv (n := 0) (v := 0) (by decide +kernel) (by decide +kernel) ?_
    refine pe_iret (by decide +kernel) rfl rfl ⟨rfl, rfl, ?_⟩
    show pmE pg X pg_tyl pg_cl (d + 1) 315 6 [.ref 147, .int x1] [.int 0] (md wc f A) _
    refine pz_if_eq (off := 12) (t := 18) (by decide +kernel) (by decide) rfl kz_0 (fun h2 => ?_) (fun h2 => by omega)
    refine pe_bipushv (n := (-2)) (v := (-2)) (by decide +kernel) (by decide +kernel) ?_
    exact pe_iret (by decide +kernel) rfl rfl ⟨(-2), rfl, ⟨(by decide +kernel), trivial⟩⟩
  · skip
    refine pe_iload_n (j := 0) (by decide +kernel) rfl ?_
    refine pe_iload_n (j := 2) (by decide +kernel) rfl ?_
    refine pz_icmp_gt (off := 7) (t := 14) (by decide +kernel) (by decide) rfl rfl kz_1 (fun h3 => ?_) (fun h3 => ?_)
    · skip
      refine pe_iconstv (n := 0) (v := 0) (by decide +kernel) (by decide +kernel) ?_
      refine pe_iret (by decide +kernel) rfl rfl ⟨rfl, rfl, ?_⟩
      show pmE pg X pg_tyl pg_cl (d + 1) 315 6 [.ref 147, .int x1] [.int 0] (md wc f A) _
      refine pz_if_eq (off := 12) (t := 18) (by decide +kernel) (by decide) rfl kz_0 (fun h4 => ?_) (fun h4 => by omega)
      refine pe_bipushv (n := (-2)) (v := (-2)) (by decide +kernel) (by decide +kernel) ?_
      exact pe_iret (by decide +kernel) rfl rfl ⟨(-2), rfl, ⟨(by decide +kernel), trivial⟩⟩
    · skip
      refine pe_iconstv (n := 1) (v := 1) (by decide +kernel) (by decide +kernel) ?_
      refine pe_goto (off := 4) (t := 15) (by decide +kernel) (by decide) rfl ?_
      refine pe_iret (by decide +kernel) rfl rfl ⟨rfl, rfl, ?_⟩
      show pmE pg X pg_tyl pg_cl (d + 1) 315 6 [.ref 147, .int x1] [.int 1] (md wc f A) _
      refine pz_if_eq (off := 12) (t := 18) (by decide +kernel) (by decide) rfl kz_1 (fun h5 => by omega) (fun h5 => ?_)
      refine pe_aload_n (j := 0) (by decide +kernel) rfl ?_
      refine pe_get (j := 7) (ci := 12) (n := 0) (by decide +kernel) (by decide +kernel) (md_o hc) rfl ?_
      refine pe_iload_n (j := 1) (by decide +kernel) rfl ?_
      refine mz_ld148 (by decide +kernel) hc hI rfl (by omega) (by omega) (fun v6 ev6 pv6 => ?_)
      have rv6 : 0 ≤ v6.toInt ∧ v6.toInt ≤ 3 := by have p := pv6; simp only [MT] at p; omega
      clear pv6
      refine pe_goto (off := 5) (t := 20) (by decide +kernel) (by decide) rfl ?_
      exact pe_iret (by decide +kernel) rfl rfl ⟨v6, rfl, ⟨(by omega), trivial⟩⟩
set_option maxRecDepth 100000 in
set_option maxHeartbeats 8000000 in
theorem MM_219 {X : pm_X} {d : Nat} {wc : pm_W} {f : Nat → Int32} {A : Nat → List Int32} {x1 x2 : Int32} (hc : wc.length = 147) (hI : MI f A) : pmE pg X pg_tyl pg_cl (d + 2) 219 0 (pm_ent (pm_max pg 219) [.ref 147, .int x1, .int x2]) [] (md wc f A) (fun q => ∃ (r : Int32), q = (some (.int r), md wc f A, 0, 0) ∧ ((True ∧ True))) := by
  show pmE pg X pg_tyl pg_cl (d + 2) 219 0 [.ref 147, .int x1, .int x2, pm_dead] [] (md wc f A) _
  refine pe_aload_n (j := 0) (by decide +kernel) rfl ?_
  refine pe_iconstv (n := 0) (v := 0) (by decide +kernel) (by decide +kernel) ?_
  refine pe_iload_n (j := 1) (by decide +kernel) rfl ?_
  refine pi_V (j := 153) (mj := 200) (by decide +kernel) (cll_V (args := [.int x1, .int 0]) (n := 2) (by decide +kernel) rfl rfl (md_o hc) (by decide +kernel) (Nat.le_of_ble_eq_true rfl) (Nat.le_of_ble_eq_true rfl)) ?_
  show pmE pg X pg_tyl pg_cl (d + 1) 200 0 [.ref 147, .int 0, .int x1] [] (md wc f A) _
  refine pe_iload_n (j := 2) (by decide +kernel) rfl ?_
  refine pe_iconstv (n := 0) (v := 0) (by decide +kernel) (by decide +kernel) ?_
  refine pe_aload_n (j := 0) (by decide +kernel) rfl ?_
  refine pe_get (j := 7) (ci := 12) (n := 0) (by decide +kernel) (by decide +kernel) (md_o hc) rfl ?_
  refine pe_iload_n (j := 1) (by decide +kernel) rfl ?_
  refine mz_ld148 (by decide +kernel) hc hI kz_0 (by omega) (by omega) (fun v1 ev1 pv1 => ?_)
  have rv1 : 0 ≤ v1.toInt ∧ v1.toInt ≤ 2 := MT_c0 pv1 (by omega)
  clear pv1
  refine pe_iconstv (n := 1) (v := 1) (by decide +kernel) (by decide +kernel) ?_
  refine pz_sub (by decide +kernel) rfl kz_1 (by omega) (by omega) (fun z2 hz2 => ?_)
  refine pi_S (j := 119) (mj := 199) (by decide +kernel) (by decide +kernel) rfl ?_
  show pmE pg X pg_tyl pg_cl (d) 199 0 [.int x1, .int 0, .int z2] [] (md wc f A) _
  refine pe_iload_n (j := 0) (by decide +kernel) rfl ?_
  refine pe_iload_n (j := 1) (by decide +kernel) rfl ?_
  refine pz_icmp_lt (off := 12) (t := 14) (by decide +kernel) (by decide) rfl rfl kz_0 (fun h3 => ?_) (fun h3 => ?_)
  · skip
    refine pe_iconstv (n := 0) (v := 0) (by decide +kernel) (by decide +kernel) ?_
    refine pe_iret (by decide +kernel) rfl rfl ⟨rfl, rfl, ?_⟩
    show pmE pg X pg_tyl pg_cl (d + 1) 200 13 [.ref 147, .int 0, .int x1] [.int 0] (md wc f A) _
    refine pe_iret (by decide +kernel) rfl rfl ⟨rfl, rfl, ?_⟩
    show pmE pg X pg_tyl pg_cl (d + 2) 219 6 [.ref 147, .int x1, .int x2, pm_dead] [.int 0] (md wc f A) _
    refine pz_if_ne (off := 5) (t := 11) (by decide +kernel) (by decide) rfl kz_0 (fun h4 => by omega) (fun h4 => ?_)
    refine pe_iconstv (n := (-1)) (v := (-1)) (by decide +kernel) (by decide +kernel) ?_
    exact pe_iret (by decide +kernel) rfl rfl ⟨(-1), rfl, ⟨trivial, trivial⟩⟩
  · skip
    refine pe_iload_n (j := 0) (by decide +kernel) rfl ?_
    refine pe_iload_n (j := 2) (by decide +kernel) rfl ?_
    refine pz_icmp_gt (off := 7) (t := 14) (by decide +kernel) (by decide) rfl rfl hz2 (fun h5 => ?_) (fun h5 => ?_)
    · skip
      refine pe_iconstv (n := 0) (v := 0) (by decide +kernel) (by decide +kernel) ?_
      refine pe_iret (by decide +kernel) rfl rfl ⟨rfl, rfl, ?_⟩
      show pmE pg X pg_tyl pg_cl (d + 1) 200 13 [.ref 147, .int 0, .int x1] [.int 0] (md wc f A) _
      refine pe_iret (by decide +kernel) rfl rfl ⟨rfl, rfl, ?_⟩
      show pmE pg X pg_tyl pg_cl (d + 2) 219 6 [.ref 147, .int x1, .int x2, pm_dead] [.int 0] (md wc f A) _
      refine pz_if_ne (off := 5) (t := 11) (by decide +kernel) (by decide) rfl kz_0 (fun h6 => by omega) (fun h6 => ?_)
      refine pe_iconstv (n := (-1)) (v := (-1)) (by decide +kernel) (by decide +kernel) ?_
      exact pe_iret (by decide +kernel) rfl rfl ⟨(-1), rfl, ⟨trivial, trivial⟩⟩
    · skip
      refine pe_iconstv (n := 1) (v := 1) (by decide +kernel) (by decide +kernel) ?_
      refine pe_goto (off := 4) (t := 15) (by decide +kernel) (by decide) rfl ?_
      refine pe_iret (by decide +kernel) rfl rfl ⟨rfl, rfl, ?_⟩
      show pmE pg X pg_tyl pg_cl (d + 1) 200 13 [.ref 147, .int 0, .int x1] [.int 1] (md wc f A) _
      refine pe_iret (by decide +kernel) rfl rfl ⟨rfl, rfl, ?_⟩
      show pmE pg X pg_tyl pg_cl (d + 2) 219 6 [.ref 147, .int x1, .int x2, pm_dead] [.int 1] (md wc f A) _
      refine pz_if_ne (off := 5) (t := 11) (by decide +kernel) (by decide) rfl kz_1 (fun h7 => ?_) (fun h7 => by omega)
      refine pe_iconstv (n := 0) (v := 0) (by decide +kernel) (by decide +kernel) ?_
      refine pe_iload_n (j := 1) (by decide +kernel) rfl ?_
      refine pi_S (j := 163) (mj := 217) (by decide +kernel) (by decide +kernel) rfl ?_
      show pmE pg X pg_tyl pg_cl (d + 1) 217 0 [.int 0, .int x1] [] (md wc f A) _
      refine pe_iload_n (j := 0) (by decide +kernel) rfl ?_
      refine pz_if_ne (off := 15) (t := 16) (by decide +kernel) (by decide) rfl kz_0 (fun h8 => by omega) (fun h8 => ?_)
      refine pe_sipushv (n := 610) (v := 610) (by decide +kernel) (by decide +kernel) ?_
      refine pe_sipushv (n := 132) (v := 132) (by decide +kernel) (by decide +kernel) ?_
      refine pe_iload_n (j := 1) (by decide +kernel) rfl ?_
      refine pz_mul (by decide +kernel) kz_132 rfl (by omega) (by omega) (fun z9 hz9 => ?_)
      refine pz_add (by decide +kernel) kz_610 hz9 (by omega) (by omega) (fun z10 hz10 => ?_)
      clear hz9
      refine pe_goto (off := 12) (t := 25) (by decide +kernel) (by decide) rfl ?_
      refine pe_iret (by decide +kernel) rfl rfl ⟨rfl, rfl, ?_⟩
      show pmE pg X pg_tyl pg_cl (d + 2) 219 16 [.ref 147, .int x1, .int x2, pm_dead] [.int z10] (md wc f A) _
      refine pe_istore_n (j := 3) (ls' := [.ref 147, .int x1, .int x2, .int z10]) (by decide +kernel) (Nat.le_of_ble_eq_true rfl) rfl ?_
      refine pe_iload_n (j := 2) (by decide +kernel) rfl ?_
      refine pe_iconstv (n := 0) (v := 0) (by decide +kernel) (by decide +kernel) ?_
      refine pe_iconstv (n := 2) (v := 2) (by decide +kernel) (by decide +kernel) ?_
      refine pi_S (j := 119) (mj := 199) (by decide +kernel) (by decide +kernel) rfl ?_
      show pmE pg X pg_tyl pg_cl (d + 1) 199 0 [.int x2, .int 0, .int 2] [] (md wc f A) _
      refine pe_iload_n (j := 0) (by decide +kernel) rfl ?_
      refine pe_iload_n (j := 1) (by decide +kernel) rfl ?_
      refine pz_icmp_lt (off := 12) (t := 14) (by decide +kernel) (by decide) rfl rfl kz_0 (fun h11 => ?_) (fun h11 => ?_)
      · skip
        refine pe_iconstv (n := 0) (v := 0) (by decide +kernel) (by decide +kernel) ?_
        refine pe_iret (by decide +kernel) rfl rfl ⟨rfl, rfl, ?_⟩
        show pmE pg X pg_tyl pg_cl (d + 2) 219 23 [.ref 147, .int x1, .int x2, .int z10] [.int 0] (md wc f A) _
        refine pz_if_eq (off := 12) (t := 35) (by decide +kernel) (by decide) rfl kz_0 (fun h12 => ?_) (fun h12 => by omega)
        refine pe_iload_n (j := 2) (by decide +kernel) rfl ?_
        refine pe_bipushv (n := 10) (v := 10) (by decide +kernel) (by decide +kernel) ?_
        refine pe_bipushv (n := 9) (v := 9) (by decide +kernel) (by decide +kernel) ?_
        refine pe_aload_n (j := 0) (by decide +kernel) rfl ?_
        refine pe_get (j := 7) (ci := 12) (n := 0) (by decide +kernel) (by decide +kernel) (md_o hc) rfl ?_
        refine pe_iload_n (j := 3) (by decide +kernel) rfl ?_
        refine mz_ld148 (by decide +kernel) hc hI hz10 (by omega) (by omega) (fun v13 ev13 pv13 => ?_)
        have rv13 : 0 ≤ v13.toInt ∧ v13.toInt ≤ 9 := MT_people pv13 (by omega)
        clear pv13
        refine pz_add (by decide +kernel) kz_9 rfl (by omega) (by omega) (fun z14 hz14 => ?_)
        refine pi_S (j := 119) (mj := 199) (by decide +kernel) (by decide +kernel) rfl ?_
        show pmE pg X pg_tyl pg_cl (d + 1) 199 0 [.int x2, .int 10, .int z14] [] (md wc f A) _
        refine pe_iload_n (j := 0) (by decide +kernel) rfl ?_
        refine pe_iload_n (j := 1) (by decide +kernel) rfl ?_
        refine pz_icmp_lt (off := 12) (t := 14) (by decide +kernel) (by decide) rfl rfl kz_10 (fun h15 => ?_) (fun h15 => by omega)
        refine pe_iconstv (n := 0) (v := 0) (by decide +kernel) (by decide +kernel) ?_
        refine pe_iret (by decide +kernel) rfl rfl ⟨rfl, rfl, ?_⟩
        show pmE pg X pg_tyl pg_cl (d + 2) 219 50 [.ref 147, .int x1, .int x2, .int z10] [.int 0] (md wc f A) _
        refine pz_if_eq (off := 18) (t := 68) (by decide +kernel) (by decide) rfl kz_0 (fun h16 => ?_) (fun h16 => by omega)
        refine pe_iload_n (j := 2) (by decide +kernel) rfl ?_
        refine pe_bipushv (n := 20) (v := 20) (by decide +kernel) (by decide +kernel) ?_
        refine pe_bipushv (n := 19) (v := 19) (by decide +kernel) (by decide +kernel) ?_
        refine pe_aload_n (j := 0) (by decide +kernel) rfl ?_
        refine pe_get (j := 7) (ci := 12) (n := 0) (by decide +kernel) (by decide +kernel) (md_o hc) rfl ?_
        refine pe_iload_n (j := 3) (by decide +kernel) rfl ?_
        refine mz_ld148 (by decide +kernel) hc hI hz10 (by omega) (by omega) (fun v17 ev17 pv17 => ?_)
        rw [ev17.trans ev13.symm]
        clear pv17 ev17 v17
        refine pz_add (by decide +kernel) kz_19 rfl (by omega) (by omega) (fun z18 hz18 => ?_)
        refine pi_S (j := 119) (mj := 199) (by decide +kernel) (by decide +kernel) rfl ?_
        show pmE pg X pg_tyl pg_cl (d + 1) 199 0 [.int x2, .int 20, .int z18] [] (md wc f A) _
        refine pe_iload_n (j := 0) (by decide +kernel) rfl ?_
        refine pe_iload_n (j := 1) (by decide +kernel) rfl ?_
        refine pz_icmp_lt (off := 12) (t := 14) (by decide +kernel) (by decide) rfl rfl kz_20 (fun h19 => ?_) (fun h19 => by omega)
        refine pe_iconstv (n := 0) (v := 0) (by decide +kernel) (by decide +kernel) ?_
        refine pe_iret (by decide +kernel) rfl rfl ⟨rfl, rfl, ?_⟩
        show pmE pg X pg_tyl pg_cl (d + 2) 219 83 [.ref 147, .int x1, .int x2, .int z10] [.int 0] (md wc f A) _
        refine pz_if_eq (off := 20) (t := 103) (by decide +kernel) (by decide) rfl kz_0 (fun h20 => ?_) (fun h20 => by omega)
        refine pe_iconstv (n := (-1)) (v := (-1)) (by decide +kernel) (by decide +kernel) ?_
        exact pe_iret (by decide +kernel) rfl rfl ⟨(-1), rfl, ⟨trivial, trivial⟩⟩
      · skip
        refine pe_iload_n (j := 0) (by decide +kernel) rfl ?_
        refine pe_iload_n (j := 2) (by decide +kernel) rfl ?_
        refine pz_icmp_gt (off := 7) (t := 14) (by decide +kernel) (by decide) rfl rfl kz_2 (fun h21 => ?_) (fun h21 => ?_)
        · skip
          refine pe_iconstv (n := 0) (v := 0) (by decide +kernel) (by decide +kernel) ?_
          refine pe_iret (by decide +kernel) rfl rfl ⟨rfl, rfl, ?_⟩
          show pmE pg X pg_tyl pg_cl (d + 2) 219 23 [.ref 147, .int x1, .int x2, .int z10] [.int 0] (md wc f A) _
          refine pz_if_eq (off := 12) (t := 35) (by decide +kernel) (by decide) rfl kz_0 (fun h22 => ?_) (fun h22 => by omega)
          refine pe_iload_n (j := 2) (by decide +kernel) rfl ?_
          refine pe_bipushv (n := 10) (v := 10) (by decide +kernel) (by decide +kernel) ?_
          refine pe_bipushv (n := 9) (v := 9) (by decide +kernel) (by decide +kernel) ?_
          refine pe_aload_n (j := 0) (by decide +kernel) rfl ?_
          refine pe_get (j := 7) (ci := 12) (n := 0) (by decide +kernel) (by decide +kernel) (md_o hc) rfl ?_
          refine pe_iload_n (j := 3) (by decide +kernel) rfl ?_
          refine mz_ld148 (by decide +kernel) hc hI hz10 (by omega) (by omega) (fun v23 ev23 pv23 => ?_)
          have rv23 : 0 ≤ v23.toInt ∧ v23.toInt ≤ 9 := MT_people pv23 (by omega)
          clear pv23
          refine pz_add (by decide +kernel) kz_9 rfl (by omega) (by omega) (fun z24 hz24 => ?_)
          refine pi_S (j := 119) (mj := 199) (by decide +kernel) (by decide +kernel) rfl ?_
          show pmE pg X pg_tyl pg_cl (d + 1) 199 0 [.int x2, .int 10, .int z24] [] (md wc f A) _
          refine pe_iload_n (j := 0) (by decide +kernel) rfl ?_
          refine pe_iload_n (j := 1) (by decide +kernel) rfl ?_
          refine pz_icmp_lt (off := 12) (t := 14) (by decide +kernel) (by decide) rfl rfl kz_10 (fun h25 => ?_) (fun h25 => ?_)
          · skip
            refine pe_iconstv (n := 0) (v := 0) (by decide +kernel) (by decide +kernel) ?_
            refine pe_iret (by decide +kernel) rfl rfl ⟨rfl, rfl, ?_⟩
            show pmE pg X pg_tyl pg_cl (d + 2) 219 50 [.ref 147, .int x1, .int x2, .int z10] [.int 0] (md wc f A) _
            refine pz_if_eq (off := 18) (t := 68) (by decide +kernel) (by decide) rfl kz_0 (fun h26 => ?_) (fun h26 => by omega)
            refine pe_iload_n (j := 2) (by decide +kernel) rfl ?_
            refine pe_bipushv (n := 20) (v := 20) (by decide +kernel) (by decide +kernel) ?_
            refine pe_bipushv (n := 19) (v := 19) (by decide +kernel) (by decide +kernel) ?_
            refine pe_aload_n (j := 0) (by decide +kernel) rfl ?_
            refine pe_get (j := 7) (ci := 12) (n := 0) (by decide +kernel) (by decide +kernel) (md_o hc) rfl ?_
            refine pe_iload_n (j := 3) (by decide +kernel) rfl ?_
            refine mz_ld148 (by decide +kernel) hc hI hz10 (by omega) (by omega) (fun v27 ev27 pv27 => ?_)
            rw [ev27.trans ev23.symm]
            clear pv27 ev27 v27
            refine pz_add (by decide +kernel) kz_19 rfl (by omega) (by omega) (fun z28 hz28 => ?_)
            refine pi_S (j := 119) (mj := 199) (by decide +kernel) (by decide +kernel) rfl ?_
            show pmE pg X pg_tyl pg_cl (d + 1) 199 0 [.int x2, .int 20, .int z28] [] (md wc f A) _
            refine pe_iload_n (j := 0) (by decide +kernel) rfl ?_
            refine pe_iload_n (j := 1) (by decide +kernel) rfl ?_
            refine pz_icmp_lt (off := 12) (t := 14) (by decide +kernel) (by decide) rfl rfl kz_20 (fun h29 => ?_) (fun h29 => by omega)
            refine pe_iconstv (n := 0) (v := 0) (by decide +kernel) (by decide +kernel) ?_
            refine pe_iret (by decide +kernel) rfl rfl ⟨rfl, rfl, ?_⟩
            show pmE pg X pg_tyl pg_cl (d + 2) 219 83 [.ref 147, .int x1, .int x2, .int z10] [.int 0] (md wc f A) _
            refine pz_if_eq (off := 20) (t := 103) (by decide +kernel) (by decide) rfl kz_0 (fun h30 => ?_) (fun h30 => by omega)
            refine pe_iconstv (n := (-1)) (v := (-1)) (by decide +kernel) (by decide +kernel) ?_
            exact pe_iret (by decide +kernel) rfl rfl ⟨(-1), rfl, ⟨trivial, trivial⟩⟩
          · skip
            refine pe_iload_n (j := 0) (by decide +kernel) rfl ?_
            refine pe_iload_n (j := 2) (by decide +kernel) rfl ?_
            refine pz_icmp_gt (off := 7) (t := 14) (by decide +kernel) (by decide) rfl rfl hz24 (fun h31 => ?_) (fun h31 => ?_)
            · skip
              refine pe_iconstv (n := 0) (v := 0) (by decide +kernel) (by decide +kernel) ?_
              refine pe_iret (by decide +kernel) rfl rfl ⟨rfl, rfl, ?_⟩
              show pmE pg X pg_tyl pg_cl (d + 2) 219 50 [.ref 147, .int x1, .int x2, .int z10] [.int 0] (md wc f A) _
              refine pz_if_eq (off := 18) (t := 68) (by decide +kernel) (by decide) rfl kz_0 (fun h32 => ?_) (fun h32 => by omega)
              refine pe_iload_n (j := 2) (by decide +kernel) rfl ?_
              refine pe_bipushv (n := 20) (v := 20) (by decide +kernel) (by decide +kernel) ?_
              refine pe_bipushv (n := 19) (v := 19) (by decide +kernel) (by decide +kernel) ?_
              refine pe_aload_n (j := 0) (by decide +kernel) rfl ?_
              refine pe_get (j := 7) (ci := 12) (n := 0) (by decide +kernel) (by decide +kernel) (md_o hc) rfl ?_
              refine pe_iload_n (j := 3) (by decide +kernel) rfl ?_
              refine mz_ld148 (by decide +kernel) hc hI hz10 (by omega) (by omega) (fun v33 ev33 pv33 => ?_)
              rw [ev33.trans ev23.symm]
              clear pv33 ev33 v33
              refine pz_add (by decide +kernel) kz_19 rfl (by omega) (by omega) (fun z34 hz34 => ?_)
              refine pi_S (j := 119) (mj := 199) (by decide +kernel) (by decide +kernel) rfl ?_
              show pmE pg X pg_tyl pg_cl (d + 1) 199 0 [.int x2, .int 20, .int z34] [] (md wc f A) _
              refine pe_iload_n (j := 0) (by decide +kernel) rfl ?_
              refine pe_iload_n (j := 1) (by decide +kernel) rfl ?_
              refine pz_icmp_lt (off := 12) (t := 14) (by decide +kernel) (by decide) rfl rfl kz_20 (fun h35 => ?_) (fun h35 => ?_)
              · skip
                refine pe_iconstv (n := 0) (v := 0) (by decide +kernel) (by decide +kernel) ?_
                refine pe_iret (by decide +kernel) rfl rfl ⟨rfl, rfl, ?_⟩
                show pmE pg X pg_tyl pg_cl (d + 2) 219 83 [.ref 147, .int x1, .int x2, .int z10] [.int 0] (md wc f A) _
                refine pz_if_eq (off := 20) (t := 103) (by decide +kernel) (by decide) rfl kz_0 (fun h36 => ?_) (fun h36 => by omega)
                refine pe_iconstv (n := (-1)) (v := (-1)) (by decide +kernel) (by decide +kernel) ?_
                exact pe_iret (by decide +kernel) rfl rfl ⟨(-1), rfl, ⟨trivial, trivial⟩⟩
              · skip
                refine pe_iload_n (j := 0) (by decide +kernel) rfl ?_
                refine pe_iload_n (j := 2) (by decide +kernel) rfl ?_
                refine pz_icmp_gt (off := 7) (t := 14) (by decide +kernel) (by decide) rfl rfl hz34 (fun h37 => ?_) (fun h37 => ?_)
                · skip
                  refine pe_iconstv (n := 0) (v := 0) (by decide +kernel) (by decide +kernel) ?_
                  refine pe_iret (by decide +kernel) rfl rfl ⟨rfl, rfl, ?_⟩
                  show pmE pg X pg_tyl pg_cl (d + 2) 219 83 [.ref 147, .int x1, .int x2, .int z10] [.int 0] (md wc f A) _
                  refine pz_if_eq (off := 20) (t := 103) (by decide +kernel) (by decide) rfl kz_0 (fun h38 => ?_) (fun h38 => by omega)
                  refine pe_iconstv (n := (-1)) (v := (-1)) (by decide +kernel) (by decide +kernel) ?_
                  exact pe_iret (by decide +kernel) rfl rfl ⟨(-1), rfl, ⟨trivial, trivial⟩⟩
                · skip
                  refine pe_iconstv (n := 1) (v := 1) (by decide +kernel) (by decide +kernel) ?_
                  refine pe_goto (off := 4) (t := 15) (by decide +kernel) (by decide) rfl ?_
                  refine pe_iret (by decide +kernel) rfl rfl ⟨rfl, rfl, ?_⟩
                  show pmE pg X pg_tyl pg_cl (d + 2) 219 83 [.ref 147, .int x1, .int x2, .int z10] [.int 1] (md wc f A) _
                  refine pz_if_eq (off := 20) (t := 103) (by decide +kernel) (by decide) rfl kz_1 (fun h39 => by omega) (fun h39 => ?_)
                  refine pe_aload_n (j := 0) (by decide +kernel) rfl ?_
                  refine pe_get (j := 7) (ci := 12) (n := 0) (by decide +kernel) (by decide +kernel) (md_o hc) rfl ?_
                  refine pe_iload_n (j := 3) (by decide +kernel) rfl ?_
                  refine pe_bipushv (n := 93) (v := 93) (by decide +kernel) (by decide +kernel) ?_
                  refine pz_add (by decide +kernel) hz10 kz_93 (by omega) (by omega) (fun z40 hz40 => ?_)
                  refine pe_iload_n (j := 2) (by decide +kernel) rfl ?_
                  refine pz_add (by decide +kernel) hz40 rfl (by omega) (by omega) (fun z41 hz41 => ?_)
                  clear hz40
                  refine pe_bipushv (n := 20) (v := 20) (by decide +kernel) (by decide +kernel) ?_
                  refine pz_sub (by decide +kernel) hz41 kz_20 (by omega) (by omega) (fun z42 hz42 => ?_)
                  clear hz41
                  refine mz_ld148 (by decide +kernel) hc hI hz42 (by omega) (by omega) (fun v43 ev43 pv43 => ?_)
                  clear pv43
                  clear hz42
                  refine pe_goto (off := 4) (t := 104) (by decide +kernel) (by decide) rfl ?_
                  exact pe_iret (by decide +kernel) rfl rfl ⟨v43, rfl, ⟨trivial, trivial⟩⟩
            · skip
              refine pe_iconstv (n := 1) (v := 1) (by decide +kernel) (by decide +kernel) ?_
              refine pe_goto (off := 4) (t := 15) (by decide +kernel) (by decide) rfl ?_
              refine pe_iret (by decide +kernel) rfl rfl ⟨rfl, rfl, ?_⟩
              show pmE pg X pg_tyl pg_cl (d + 2) 219 50 [.ref 147, .int x1, .int x2, .int z10] [.int 1] (md wc f A) _
              refine pz_if_eq (off := 18) (t := 68) (by decide +kernel) (by decide) rfl kz_1 (fun h44 => by omega) (fun h44 => ?_)
              refine pe_aload_n (j := 0) (by decide +kernel) rfl ?_
              refine pe_get (j := 7) (ci := 12) (n := 0) (by decide +kernel) (by decide +kernel) (md_o hc) rfl ?_
              refine pe_iload_n (j := 3) (by decide +kernel) rfl ?_
              refine pe_bipushv (n := 84) (v := 84) (by decide +kernel) (by decide +kernel) ?_
              refine pz_add (by decide +kernel) hz10 kz_84 (by omega) (by omega) (fun z45 hz45 => ?_)
              refine pe_iload_n (j := 2) (by decide +kernel) rfl ?_
              refine pz_add (by decide +kernel) hz45 rfl (by omega) (by omega) (fun z46 hz46 => ?_)
              clear hz45
              refine pe_bipushv (n := 10) (v := 10) (by decide +kernel) (by decide +kernel) ?_
              refine pz_sub (by decide +kernel) hz46 kz_10 (by omega) (by omega) (fun z47 hz47 => ?_)
              clear hz46
              refine mz_ld148 (by decide +kernel) hc hI hz47 (by omega) (by omega) (fun v48 ev48 pv48 => ?_)
              clear pv48
              clear hz47
              exact pe_iret (by decide +kernel) rfl rfl ⟨v48, rfl, ⟨trivial, trivial⟩⟩
        · skip
          refine pe_iconstv (n := 1) (v := 1) (by decide +kernel) (by decide +kernel) ?_
          refine pe_goto (off := 4) (t := 15) (by decide +kernel) (by decide) rfl ?_
          refine pe_iret (by decide +kernel) rfl rfl ⟨rfl, rfl, ?_⟩
          show pmE pg X pg_tyl pg_cl (d + 2) 219 23 [.ref 147, .int x1, .int x2, .int z10] [.int 1] (md wc f A) _
          refine pz_if_eq (off := 12) (t := 35) (by decide +kernel) (by decide) rfl kz_1 (fun h49 => by omega) (fun h49 => ?_)
          refine pe_aload_n (j := 0) (by decide +kernel) rfl ?_
          refine pe_get (j := 7) (ci := 12) (n := 0) (by decide +kernel) (by decide +kernel) (md_o hc) rfl ?_
          refine pe_iload_n (j := 3) (by decide +kernel) rfl ?_
          refine pe_iload_n (j := 2) (by decide +kernel) rfl ?_
          refine pz_add (by decide +kernel) hz10 rfl (by omega) (by omega) (fun z50 hz50 => ?_)
          refine mz_ld148 (by decide +kernel) hc hI hz50 (by omega) (by omega) (fun v51 ev51 pv51 => ?_)
          clear pv51
          clear hz50
          exact pe_iret (by decide +kernel) rfl rfl ⟨v51, rfl, ⟨trivial, trivial⟩⟩
set_option maxRecDepth 100000 in
set_option maxHeartbeats 8000000 in
theorem MM_220 {X : pm_X} {d : Nat} {wc : pm_W} {f : Nat → Int32} {A : Nat → List Int32} {x1 x2 x3 : Int32} (hc : wc.length = 147) (hI : MI f A) : pmE pg X pg_tyl pg_cl (d + 2) 220 0 (pm_ent (pm_max pg 220) [.ref 147, .int x1, .int x2, .int x3]) [] (md wc f A) (fun q => ∃ (r : Int32), q = (some (.int r), md wc f A, 0, 0) ∧ ((True ∧ True))) := by
  show pmE pg X pg_tyl pg_cl (d + 2) 220 0 [.ref 147, .int x1, .int x2, .int x3] [] (md wc f A) _
  refine pe_aload_n (j := 0) (by decide +kernel) rfl ?_
  refine pe_iconstv (n := 0) (v := 0) (by decide +kernel) (by decide +kernel) ?_
  refine pe_iload_n (j := 1) (by decide +kernel) rfl ?_
  refine pi_V (j := 153) (mj := 200) (by decide +kernel) (cll_V (args := [.int x1, .int 0]) (n := 2) (by decide +kernel) rfl rfl (md_o hc) (by decide +kernel) (Nat.le_of_ble_eq_true rfl) (Nat.le_of_ble_eq_true rfl)) ?_
  show pmE pg X pg_tyl pg_cl (d + 1) 200 0 [.ref 147, .int 0, .int x1] [] (md wc f A) _
  refine pe_iload_n (j := 2) (by decide +kernel) rfl ?_
  refine pe_iconstv (n := 0) (v := 0) (by decide +kernel) (by decide +kernel) ?_
  refine pe_aload_n (j := 0) (by decide +kernel) rfl ?_
  refine pe_get (j := 7) (ci := 12) (n := 0) (by decide +kernel) (by decide +kernel) (md_o hc) rfl ?_
  refine pe_iload_n (j := 1) (by decide +kernel) rfl ?_
  refine mz_ld148 (by decide +kernel) hc hI kz_0 (by omega) (by omega) (fun v1 ev1 pv1 => ?_)
  have rv1 : 0 ≤ v1.toInt ∧ v1.toInt ≤ 2 := MT_c0 pv1 (by omega)
  clear pv1
  refine pe_iconstv (n := 1) (v := 1) (by decide +kernel) (by decide +kernel) ?_
  refine pz_sub (by decide +kernel) rfl kz_1 (by omega) (by omega) (fun z2 hz2 => ?_)
  refine pi_S (j := 119) (mj := 199) (by decide +kernel) (by decide +kernel) rfl ?_
  show pmE pg X pg_tyl pg_cl (d) 199 0 [.int x1, .int 0, .int z2] [] (md wc f A) _
  refine pe_iload_n (j := 0) (by decide +kernel) rfl ?_
  refine pe_iload_n (j := 1) (by decide +kernel) rfl ?_
  refine pz_icmp_lt (off := 12) (t := 14) (by decide +kernel) (by decide) rfl rfl kz_0 (fun h3 => ?_) (fun h3 => ?_)
  · skip
    refine pe_iconstv (n := 0) (v := 0) (by decide +kernel) (by decide +kernel) ?_
    refine pe_iret (by decide +kernel) rfl rfl ⟨rfl, rfl, ?_⟩
    show pmE pg X pg_tyl pg_cl (d + 1) 200 13 [.ref 147, .int 0, .int x1] [.int 0] (md wc f A) _
    refine pe_iret (by decide +kernel) rfl rfl ⟨rfl, rfl, ?_⟩
    show pmE pg X pg_tyl pg_cl (d + 2) 220 6 [.ref 147, .int x1, .int x2, .int x3] [.int 0] (md wc f A) _
    refine pz_if_eq (off := 29) (t := 35) (by decide +kernel) (by decide) rfl kz_0 (fun h4 => ?_) (fun h4 => by omega)
    refine pe_iconstv (n := (-1)) (v := (-1)) (by decide +kernel) (by decide +kernel) ?_
    exact pe_iret (by decide +kernel) rfl rfl ⟨(-1), rfl, ⟨trivial, trivial⟩⟩
  · skip
    refine pe_iload_n (j := 0) (by decide +kernel) rfl ?_
    refine pe_iload_n (j := 2) (by decide +kernel) rfl ?_
    refine pz_icmp_gt (off := 7) (t := 14) (by decide +kernel) (by decide) rfl rfl hz2 (fun h5 => ?_) (fun h5 => ?_)
    · skip
      refine pe_iconstv (n := 0) (v := 0) (by decide +kernel) (by decide +kernel) ?_
      refine pe_iret (by decide +kernel) rfl rfl ⟨rfl, rfl, ?_⟩
      show pmE pg X pg_tyl pg_cl (d + 1) 200 13 [.ref 147, .int 0, .int x1] [.int 0] (md wc f A) _
      refine pe_iret (by decide +kernel) rfl rfl ⟨rfl, rfl, ?_⟩
      show pmE pg X pg_tyl pg_cl (d + 2) 220 6 [.ref 147, .int x1, .int x2, .int x3] [.int 0] (md wc f A) _
      refine pz_if_eq (off := 29) (t := 35) (by decide +kernel) (by decide) rfl kz_0 (fun h6 => ?_) (fun h6 => by omega)
      refine pe_iconstv (n := (-1)) (v := (-1)) (by decide +kernel) (by decide +kernel) ?_
      exact pe_iret (by decide +kernel) rfl rfl ⟨(-1), rfl, ⟨trivial, trivial⟩⟩
    · skip
      refine pe_iconstv (n := 1) (v := 1) (by decide +kernel) (by decide +kernel) ?_
      refine pe_goto (off := 4) (t := 15) (by decide +kernel) (by decide) rfl ?_
      refine pe_iret (by decide +kernel) rfl rfl ⟨rfl, rfl, ?_⟩
      show pmE pg X pg_tyl pg_cl (d + 1) 200 13 [.ref 147, .int 0, .int x1] [.int 1] (md wc f A) _
      refine pe_iret (by decide +kernel) rfl rfl ⟨rfl, rfl, ?_⟩
      show pmE pg X pg_tyl pg_cl (d + 2) 220 6 [.ref 147, .int x1, .int x2, .int x3] [.int 1] (md wc f A) _
      refine pz_if_eq (off := 29) (t := 35) (by decide +kernel) (by decide) rfl kz_1 (fun h7 => by omega) (fun h7 => ?_)
      refine pe_aload_n (j := 0) (by decide +kernel) rfl ?_
      refine pe_iconstv (n := 0) (v := 0) (by decide +kernel) (by decide +kernel) ?_
      refine pe_iload_n (j := 1) (by decide +kernel) rfl ?_
      refine pi_S (j := 163) (mj := 217) (by decide +kernel) (by decide +kernel) rfl ?_
      show pmE pg X pg_tyl pg_cl (d + 1) 217 0 [.int 0, .int x1] [] (md wc f A) _
      refine pe_iload_n (j := 0) (by decide +kernel) rfl ?_
      refine pz_if_ne (off := 15) (t := 16) (by decide +kernel) (by decide) rfl kz_0 (fun h8 => by omega) (fun h8 => ?_)
      refine pe_sipushv (n := 610) (v := 610) (by decide +kernel) (by decide +kernel) ?_
      refine pe_sipushv (n := 132) (v := 132) (by decide +kernel) (by decide +kernel) ?_
      refine pe_iload_n (j := 1) (by decide +kernel) rfl ?_
      refine pz_mul (by decide +kernel) kz_132 rfl (by omega) (by omega) (fun z9 hz9 => ?_)
      refine pz_add (by decide +kernel) kz_610 hz9 (by omega) (by omega) (fun z10 hz10 => ?_)
      clear hz9
      refine pe_goto (off := 12) (t := 25) (by decide +kernel) (by decide) rfl ?_
      refine pe_iret (by decide +kernel) rfl rfl ⟨rfl, rfl, ?_⟩
      show pmE pg X pg_tyl pg_cl (d + 2) 220 15 [.ref 147, .int x1, .int x2, .int x3] [.int z10, .ref 147] (md wc f A) _
      refine pe_iload_n (j := 2) (by decide +kernel) rfl ?_
      refine pi_V (j := 166) (mj := 221) (by decide +kernel) (cll_V (args := [.int x2, .int z10]) (n := 2) (by decide +kernel) rfl rfl (md_o hc) (by decide +kernel) (Nat.le_of_ble_eq_true rfl) (Nat.le_of_ble_eq_true rfl)) ?_
      show pmE pg X pg_tyl pg_cl (d + 1) 221 0 [.ref 147, .int z10, .int x2] [] (md wc f A) _
      refine pe_iload_n (j := 2) (by decide +kernel) rfl ?_
      refine pe_iconstv (n := 0) (v := 0) (by decide +kernel) (by decide +kernel) ?_
      refine pe_aload_n (j := 0) (by decide +kernel) rfl ?_
      refine pe_get (j := 7) (ci := 12) (n := 0) (by decide +kernel) (by decide +kernel) (md_o hc) rfl ?_
      refine pe_iload_n (j := 1) (by decide +kernel) rfl ?_
      refine mz_ld148 (by decide +kernel) hc hI hz10 (by omega) (by omega) (fun v11 ev11 pv11 => ?_)
      have rv11 : 0 ≤ v11.toInt ∧ v11.toInt ≤ 9 := MT_people pv11 (by omega)
      clear pv11
      refine pe_iconstv (n := 1) (v := 1) (by decide +kernel) (by decide +kernel) ?_
      refine pz_sub (by decide +kernel) rfl kz_1 (by omega) (by omega) (fun z12 hz12 => ?_)
      refine pi_S (j := 119) (mj := 199) (by decide +kernel) (by decide +kernel) rfl ?_
      show pmE pg X pg_tyl pg_cl (d) 199 0 [.int x2, .int 0, .int z12] [] (md wc f A) _
      refine pe_iload_n (j := 0) (by decide +kernel) rfl ?_
      refine pe_iload_n (j := 1) (by decide +kernel) rfl ?_
      refine pz_icmp_lt (off := 12) (t := 14) (by decide +kernel) (by decide) rfl rfl kz_0 (fun h13 => ?_) (fun h13 => ?_)
      · skip
        refine pe_iconstv (n := 0) (v := 0) (by decide +kernel) (by decide +kernel) ?_
        refine pe_iret (by decide +kernel) rfl rfl ⟨rfl, rfl, ?_⟩
        show pmE pg X pg_tyl pg_cl (d + 1) 221 13 [.ref 147, .int z10, .int x2] [.int 0] (md wc f A) _
        refine pe_iret (by decide +kernel) rfl rfl ⟨rfl, rfl, ?_⟩
        show pmE pg X pg_tyl pg_cl (d + 2) 220 19 [.ref 147, .int x1, .int x2, .int x3] [.int 0] (md wc f A) _
        refine pz_if_eq (off := 16) (t := 35) (by decide +kernel) (by decide) rfl kz_0 (fun h14 => ?_) (fun h14 => by omega)
        refine pe_iconstv (n := (-1)) (v := (-1)) (by decide +kernel) (by decide +kernel) ?_
        exact pe_iret (by decide +kernel) rfl rfl ⟨(-1), rfl, ⟨trivial, trivial⟩⟩
      · skip
        refine pe_iload_n (j := 0) (by decide +kernel) rfl ?_
        refine pe_iload_n (j := 2) (by decide +kernel) rfl ?_
        refine pz_icmp_gt (off := 7) (t := 14) (by decide +kernel) (by decide) rfl rfl hz12 (fun h15 => ?_) (fun h15 => ?_)
        · skip
          refine pe_iconstv (n := 0) (v := 0) (by decide +kernel) (by decide +kernel) ?_
          refine pe_iret (by decide +kernel) rfl rfl ⟨rfl, rfl, ?_⟩
          show pmE pg X pg_tyl pg_cl (d + 1) 221 13 [.ref 147, .int z10, .int x2] [.int 0] (md wc f A) _
          refine pe_iret (by decide +kernel) rfl rfl ⟨rfl, rfl, ?_⟩
          show pmE pg X pg_tyl pg_cl (d + 2) 220 19 [.ref 147, .int x1, .int x2, .int x3] [.int 0] (md wc f A) _
          refine pz_if_eq (off := 16) (t := 35) (by decide +kernel) (by decide) rfl kz_0 (fun h16 => ?_) (fun h16 => by omega)
          refine pe_iconstv (n := (-1)) (v := (-1)) (by decide +kernel) (by decide +kernel) ?_
          exact pe_iret (by decide +kernel) rfl rfl ⟨(-1), rfl, ⟨trivial, trivial⟩⟩
        · skip
          refine pe_iconstv (n := 1) (v := 1) (by decide +kernel) (by decide +kernel) ?_
          refine pe_goto (off := 4) (t := 15) (by decide +kernel) (by decide) rfl ?_
          refine pe_iret (by decide +kernel) rfl rfl ⟨rfl, rfl, ?_⟩
          show pmE pg X pg_tyl pg_cl (d + 1) 221 13 [.ref 147, .int z10, .int x2] [.int 1] (md wc f A) _
          refine pe_iret (by decide +kernel) rfl rfl ⟨rfl, rfl, ?_⟩
          show pmE pg X pg_tyl pg_cl (d + 2) 220 19 [.ref 147, .int x1, .int x2, .int x3] [.int 1] (md wc f A) _
          refine pz_if_eq (off := 16) (t := 35) (by decide +kernel) (by decide) rfl kz_1 (fun h17 => by omega) (fun h17 => ?_)
          refine pe_aload_n (j := 0) (by decide +kernel) rfl ?_
          refine pe_iconstv (n := 0) (v := 0) (by decide +kernel) (by decide +kernel) ?_
          refine pe_iload_n (j := 1) (by decide +kernel) rfl ?_
          refine pi_S (j := 163) (mj := 217) (by decide +kernel) (by decide +kernel) rfl ?_
          show pmE pg X pg_tyl pg_cl (d + 1) 217 0 [.int 0, .int x1] [] (md wc f A) _
          refine pe_iload_n (j := 0) (by decide +kernel) rfl ?_
          refine pz_if_ne (off := 15) (t := 16) (by decide +kernel) (by decide) rfl kz_0 (fun h18 => by omega) (fun h18 => ?_)
          refine pe_sipushv (n := 610) (v := 610) (by decide +kernel) (by decide +kernel) ?_
          refine pe_sipushv (n := 132) (v := 132) (by decide +kernel) (by decide +kernel) ?_
          refine pe_iload_n (j := 1) (by decide +kernel) rfl ?_
          refine pz_mul (by decide +kernel) kz_132 rfl (by omega) (by omega) (fun z19 hz19 => ?_)
          refine pz_add (by decide +kernel) kz_610 hz19 (by omega) (by omega) (fun z20 hz20 => ?_)
          clear hz19
          refine pe_goto (off := 12) (t := 25) (by decide +kernel) (by decide) rfl ?_
          refine pe_iret (by decide +kernel) rfl rfl ⟨rfl, rfl, ?_⟩
          show pmE pg X pg_tyl pg_cl (d + 2) 220 28 [.ref 147, .int x1, .int x2, .int x3] [.int z20, .ref 147] (md wc f A) _
          refine pe_iload_n (j := 3) (by decide +kernel) rfl ?_
          refine pi_V (j := 166) (mj := 221) (by decide +kernel) (cll_V (args := [.int x3, .int z20]) (n := 2) (by decide +kernel) rfl rfl (md_o hc) (by decide +kernel) (Nat.le_of_ble_eq_true rfl) (Nat.le_of_ble_eq_true rfl)) ?_
          show pmE pg X pg_tyl pg_cl (d + 1) 221 0 [.ref 147, .int z20, .int x3] [] (md wc f A) _
          refine pe_iload_n (j := 2) (by decide +kernel) rfl ?_
          refine pe_iconstv (n := 0) (v := 0) (by decide +kernel) (by decide +kernel) ?_
          refine pe_aload_n (j := 0) (by decide +kernel) rfl ?_
          refine pe_get (j := 7) (ci := 12) (n := 0) (by decide +kernel) (by decide +kernel) (md_o hc) rfl ?_
          refine pe_iload_n (j := 1) (by decide +kernel) rfl ?_
          refine mz_ld148 (by decide +kernel) hc hI hz20 (by omega) (by omega) (fun v21 ev21 pv21 => ?_)
          rw [ev21.trans ev11.symm]
          clear pv21 ev21 v21
          refine pe_iconstv (n := 1) (v := 1) (by decide +kernel) (by decide +kernel) ?_
          refine pz_sub (by decide +kernel) rfl kz_1 (by omega) (by omega) (fun z22 hz22 => ?_)
          refine pi_S (j := 119) (mj := 199) (by decide +kernel) (by decide +kernel) rfl ?_
          show pmE pg X pg_tyl pg_cl (d) 199 0 [.int x3, .int 0, .int z22] [] (md wc f A) _
          refine pe_iload_n (j := 0) (by decide +kernel) rfl ?_
          refine pe_iload_n (j := 1) (by decide +kernel) rfl ?_
          refine pz_icmp_lt (off := 12) (t := 14) (by decide +kernel) (by decide) rfl rfl kz_0 (fun h23 => ?_) (fun h23 => ?_)
          · skip
            refine pe_iconstv (n := 0) (v := 0) (by decide +kernel) (by decide +kernel) ?_
            refine pe_iret (by decide +kernel) rfl rfl ⟨rfl, rfl, ?_⟩
            show pmE pg X pg_tyl pg_cl (d + 1) 221 13 [.ref 147, .int z20, .int x3] [.int 0] (md wc f A) _
            refine pe_iret (by decide +kernel) rfl rfl ⟨rfl, rfl, ?_⟩
            show pmE pg X pg_tyl pg_cl (d + 2) 220 32 [.ref 147, .int x1, .int x2, .int x3] [.int 0] (md wc f A) _
            refine pz_if_ne (off := 5) (t := 37) (by decide +kernel) (by decide) rfl kz_0 (fun h24 => by omega) (fun h24 => ?_)
            refine pe_iconstv (n := (-1)) (v := (-1)) (by decide +kernel) (by decide +kernel) ?_
            exact pe_iret (by decide +kernel) rfl rfl ⟨(-1), rfl, ⟨trivial, trivial⟩⟩
          · skip
            refine pe_iload_n (j := 0) (by decide +kernel) rfl ?_
            refine pe_iload_n (j := 2) (by decide +kernel) rfl ?_
            refine pz_icmp_gt (off := 7) (t := 14) (by decide +kernel) (by decide) rfl rfl hz22 (fun h25 => ?_) (fun h25 => ?_)
            · skip
              refine pe_iconstv (n := 0) (v := 0) (by decide +kernel) (by decide +kernel) ?_
              refine pe_iret (by decide +kernel) rfl rfl ⟨rfl, rfl, ?_⟩
              show pmE pg X pg_tyl pg_cl (d + 1) 221 13 [.ref 147, .int z20, .int x3] [.int 0] (md wc f A) _
              refine pe_iret (by decide +kernel) rfl rfl ⟨rfl, rfl, ?_⟩
              show pmE pg X pg_tyl pg_cl (d + 2) 220 32 [.ref 147, .int x1, .int x2, .int x3] [.int 0] (md wc f A) _
              refine pz_if_ne (off := 5) (t := 37) (by decide +kernel) (by decide) rfl kz_0 (fun h26 => by omega) (fun h26 => ?_)
              refine pe_iconstv (n := (-1)) (v := (-1)) (by decide +kernel) (by decide +kernel) ?_
              exact pe_iret (by decide +kernel) rfl rfl ⟨(-1), rfl, ⟨trivial, trivial⟩⟩
            · skip
              refine pe_iconstv (n := 1) (v := 1) (by decide +kernel) (by decide +kernel) ?_
              refine pe_goto (off := 4) (t := 15) (by decide +kernel) (by decide) rfl ?_
              refine pe_iret (by decide +kernel) rfl rfl ⟨rfl, rfl, ?_⟩
              show pmE pg X pg_tyl pg_cl (d + 1) 221 13 [.ref 147, .int z20, .int x3] [.int 1] (md wc f A) _
              refine pe_iret (by decide +kernel) rfl rfl ⟨rfl, rfl, ?_⟩
              show pmE pg X pg_tyl pg_cl (d + 2) 220 32 [.ref 147, .int x1, .int x2, .int x3] [.int 1] (md wc f A) _
              refine pz_if_ne (off := 5) (t := 37) (by decide +kernel) (by decide) rfl kz_1 (fun h27 => ?_) (fun h27 => by omega)
              refine pe_aload_n (j := 0) (by decide +kernel) rfl ?_
              refine pe_get (j := 7) (ci := 12) (n := 0) (by decide +kernel) (by decide +kernel) (md_o hc) rfl ?_
              refine pe_iconstv (n := 0) (v := 0) (by decide +kernel) (by decide +kernel) ?_
              refine pe_iload_n (j := 1) (by decide +kernel) rfl ?_
              refine pi_S (j := 163) (mj := 217) (by decide +kernel) (by decide +kernel) rfl ?_
              show pmE pg X pg_tyl pg_cl (d + 1) 217 0 [.int 0, .int x1] [] (md wc f A) _
              refine pe_iload_n (j := 0) (by decide +kernel) rfl ?_
              refine pz_if_ne (off := 15) (t := 16) (by decide +kernel) (by decide) rfl kz_0 (fun h28 => by omega) (fun h28 => ?_)
              refine pe_sipushv (n := 610) (v := 610) (by decide +kernel) (by decide +kernel) ?_
              refine pe_sipushv (n := 132) (v := 132) (by decide +kernel) (by decide +kernel) ?_
              refine pe_iload_n (j := 1) (by decide +kernel) rfl ?_
              refine pz_mul (by decide +kernel) kz_132 rfl (by omega) (by omega) (fun z29 hz29 => ?_)
              refine pz_add (by decide +kernel) kz_610 hz29 (by omega) (by omega) (fun z30 hz30 => ?_)
              clear hz29
              refine pe_goto (off := 12) (t := 25) (by decide +kernel) (by decide) rfl ?_
              refine pe_iret (by decide +kernel) rfl rfl ⟨rfl, rfl, ?_⟩
              show pmE pg X pg_tyl pg_cl (d + 2) 220 46 [.ref 147, .int x1, .int x2, .int x3] [.int z30, .ref 148] (md wc f A) _
              refine pe_iconstv (n := 3) (v := 3) (by decide +kernel) (by decide +kernel) ?_
              refine pz_add (by decide +kernel) hz30 kz_3 (by omega) (by omega) (fun z31 hz31 => ?_)
              clear hz30
              refine pe_bipushv (n := 9) (v := 9) (by decide +kernel) (by decide +kernel) ?_
              refine pe_iload_n (j := 2) (by decide +kernel) rfl ?_
              refine pz_mul (by decide +kernel) kz_9 rfl (by omega) (by omega) (fun z32 hz32 => ?_)
              refine pz_add (by decide +kernel) hz31 hz32 (by omega) (by omega) (fun z33 hz33 => ?_)
              clear hz31 hz32
              refine pe_iload_n (j := 3) (by decide +kernel) rfl ?_
              refine pz_add (by decide +kernel) hz33 rfl (by omega) (by omega) (fun z34 hz34 => ?_)
              clear hz33
              refine mz_ld148 (by decide +kernel) hc hI hz34 (by omega) (by omega) (fun v35 ev35 pv35 => ?_)
              clear pv35
              clear hz34
              exact pe_iret (by decide +kernel) rfl rfl ⟨v35, rfl, ⟨trivial, trivial⟩⟩
