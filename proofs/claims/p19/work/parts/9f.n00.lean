section
set_option maxRecDepth 100000 in
set_option maxHeartbeats 8000000 in
theorem NM_295 {X : pm_X} {d : Nat} {wc : pm_W} {f : Nat → Int32} {A : Nat → List Int32} {x1 x2 : Int32} (hc : wc.length = 147) (hI : MI f A) (gx1 : (0 ≤ x1.toInt ∧ x1.toInt ≤ 8)) (gx2 : (0 ≤ x2.toInt ∧ x2.toInt ≤ 8)) (hpp0 : BN A 20001) : pmE pg X pg_tyl pg_cl (d + 1) 295 0 (pm_ent (pm_max pg 295) [.ref 147, .int x1, .int x2]) [] (md wc f A) (fun q => ∃ (r : Int32), q = (some (.int r), md wc f A, 0, 0) ∧ ((((-1) ≤ r.toInt ∧ r.toInt ≤ 1) ∧ r.toInt = pv A x1.toInt x2.toInt ∧ True))) := by
  show pmE pg X pg_tyl pg_cl (d + 1) 295 0 [.ref 147, .int x1, .int x2, pm_dead, pm_dead] [] (md wc f A) _
  refine pe_aload_n (j := 0) (by decide +kernel) rfl ?_
  refine pe_iload_n (j := 1) (by decide +kernel) rfl ?_
  refine pe_iload_n (j := 2) (by decide +kernel) rfl ?_
  refine pi_V (j := 349) (mj := 296) (by decide +kernel) (cll_V (args := [.int x2, .int x1]) (n := 2) (by decide +kernel) rfl rfl (md_o hc) (by decide +kernel) (Nat.le_of_ble_eq_true rfl) (Nat.le_of_ble_eq_true rfl)) ?_
  show pmE pg X pg_tyl pg_cl (d) 296 0 [.ref 147, .int x1, .int x2] [] (md wc f A) _
  refine pe_aload_n (j := 0) (by decide +kernel) rfl ?_
  refine pe_get (j := 50) (ci := 12) (n := 26) (by decide +kernel) (by decide +kernel) (md_o hc) rfl ?_
  refine pe_bipushv (n := 10) (v := 10) (by decide +kernel) (by decide +kernel) ?_
  refine pe_iload_n (j := 1) (by decide +kernel) rfl ?_
  refine pz_mul (by decide +kernel) kz_10 rfl (by omega) (by omega) (fun z1 hz1 => ?_)
  refine pe_iload_n (j := 2) (by decide +kernel) rfl ?_
  refine pz_add (by decide +kernel) hz1 rfl (by omega) (by omega) (fun z2 hz2 => ?_)
  clear hz1
  refine pz_iald (by decide +kernel) (md_a161 hc) (mlen_161 hI) hz2 (by omega) (by omega) (fun v3 ev3 => ?_)
  clear hz2
  have hb4 := (BN_w hpp0) (((10 * x1.toInt) + x2.toInt)) (by omega) (by omega)
  rw [(show fr (A 161) (((10 * x1.toInt) + x2.toInt)) = v3.toInt from congrArg Int32.toInt ev3.symm)] at hb4
  refine pe_aload_n (j := 0) (by decide +kernel) rfl ?_
  refine pe_get (j := 47) (ci := 12) (n := 25) (by decide +kernel) (by decide +kernel) (md_o hc) rfl ?_
  refine pe_bipushv (n := 10) (v := 10) (by decide +kernel) (by decide +kernel) ?_
  refine pe_iload_n (j := 1) (by decide +kernel) rfl ?_
  refine pz_mul (by decide +kernel) kz_10 rfl (by omega) (by omega) (fun z5 hz5 => ?_)
  refine pe_iload_n (j := 2) (by decide +kernel) rfl ?_
  refine pz_add (by decide +kernel) hz5 rfl (by omega) (by omega) (fun z6 hz6 => ?_)
  clear hz5
  refine pz_iald (by decide +kernel) (md_a160 hc) (mlen_160 hI) hz6 (by omega) (by omega) (fun v7 ev7 => ?_)
  clear hz6
  have hb8 := (BN_l hpp0) (((10 * x1.toInt) + x2.toInt)) (by omega) (by omega)
  rw [(show fr (A 160) (((10 * x1.toInt) + x2.toInt)) = v7.toInt from congrArg Int32.toInt ev7.symm)] at hb8
  refine pz_sub (by decide +kernel) rfl rfl (by omega) (by omega) (fun z9 hz9 => ?_)
  refine pe_aload_n (j := 0) (by decide +kernel) rfl ?_
  refine pe_get (j := 53) (ci := 12) (n := 27) (by decide +kernel) (by decide +kernel) (md_o hc) rfl ?_
  refine pe_bipushv (n := 10) (v := 10) (by decide +kernel) (by decide +kernel) ?_
  refine pe_iload_n (j := 1) (by decide +kernel) rfl ?_
  refine pz_mul (by decide +kernel) kz_10 rfl (by omega) (by omega) (fun z10 hz10 => ?_)
  refine pe_iload_n (j := 2) (by decide +kernel) rfl ?_
  refine pz_add (by decide +kernel) hz10 rfl (by omega) (by omega) (fun z11 hz11 => ?_)
  clear hz10
  refine pz_iald (by decide +kernel) (md_a162 hc) (mlen_162 hI) hz11 (by omega) (by omega) (fun v12 ev12 => ?_)
  clear hz11
  have hb13 := (BN_f hpp0) (((10 * x1.toInt) + x2.toInt)) (by omega) (by omega)
  rw [(show fr (A 162) (((10 * x1.toInt) + x2.toInt)) = v12.toInt from congrArg Int32.toInt ev12.symm)] at hb13
  refine pz_sub (by decide +kernel) hz9 rfl (by omega) (by omega) (fun z14 hz14 => ?_)
  clear hz9
  have hwv15 : wv A x1.toInt x2.toInt = v3.toInt - v7.toInt - v12.toInt := by show fr (A 161) _ - fr (A 160) _ - fr (A 162) _ = _; rw [(show fr (A 161) (((10 * x1.toInt) + x2.toInt)) = v3.toInt from congrArg Int32.toInt ev3.symm), (show fr (A 160) (((10 * x1.toInt) + x2.toInt)) = v7.toInt from congrArg Int32.toInt ev7.symm), (show fr (A 162) (((10 * x1.toInt) + x2.toInt)) = v12.toInt from congrArg Int32.toInt ev12.symm)]
  refine pe_iret (by decide +kernel) rfl rfl ⟨rfl, rfl, ?_⟩
  show pmE pg X pg_tyl pg_cl (d + 1) 295 6 [.ref 147, .int x1, .int x2, pm_dead, pm_dead] [.int z14] (md wc f A) _
  refine pz_if_le (off := 7) (t := 13) (by decide +kernel) (by decide) rfl hz14 (fun h16 => ?_) (fun h16 => ?_)
  · skip
    clear hz14
    refine pe_iconstv (n := 1) (v := 1) (by decide +kernel) (by decide +kernel) ?_
    refine pe_istore_n (j := 3) (ls' := [.ref 147, .int x1, .int x2, .int 1, pm_dead]) (by decide +kernel) (Nat.le_of_ble_eq_true rfl) rfl ?_
    refine pe_aload_n (j := 0) (by decide +kernel) rfl ?_
    refine pe_get (j := 53) (ci := 12) (n := 27) (by decide +kernel) (by decide +kernel) (md_o hc) rfl ?_
    refine pe_bipushv (n := 10) (v := 10) (by decide +kernel) (by decide +kernel) ?_
    refine pe_iload_n (j := 2) (by decide +kernel) rfl ?_
    refine pz_mul (by decide +kernel) kz_10 rfl (by omega) (by omega) (fun z17 hz17 => ?_)
    refine pe_iload_n (j := 1) (by decide +kernel) rfl ?_
    refine pz_add (by decide +kernel) hz17 rfl (by omega) (by omega) (fun z18 hz18 => ?_)
    clear hz17
    refine pz_iald (by decide +kernel) (md_a162 hc) (mlen_162 hI) hz18 (by omega) (by omega) (fun v19 ev19 => ?_)
    clear hz18
    have hb20 := (BN_f hpp0) (((10 * x2.toInt) + x1.toInt)) (by omega) (by omega)
    rw [(show fr (A 162) (((10 * x2.toInt) + x1.toInt)) = v19.toInt from congrArg Int32.toInt ev19.symm)] at hb20
    refine pz_if_ne (off := 7) (t := 33) (by decide +kernel) (by decide) rfl rfl (fun h21 => ?_) (fun h21 => ?_)
    · skip
      refine pe_aload_n (j := 0) (by decide +kernel) rfl ?_
      refine pe_iload_n (j := 2) (by decide +kernel) rfl ?_
      refine pe_iload_n (j := 1) (by decide +kernel) rfl ?_
      refine pi_V (j := 349) (mj := 296) (by decide +kernel) (cll_V (args := [.int x1, .int x2]) (n := 2) (by decide +kernel) rfl rfl (md_o hc) (by decide +kernel) (Nat.le_of_ble_eq_true rfl) (Nat.le_of_ble_eq_true rfl)) ?_
      show pmE pg X pg_tyl pg_cl (d) 296 0 [.ref 147, .int x2, .int x1] [] (md wc f A) _
      refine pe_aload_n (j := 0) (by decide +kernel) rfl ?_
      refine pe_get (j := 50) (ci := 12) (n := 26) (by decide +kernel) (by decide +kernel) (md_o hc) rfl ?_
      refine pe_bipushv (n := 10) (v := 10) (by decide +kernel) (by decide +kernel) ?_
      refine pe_iload_n (j := 1) (by decide +kernel) rfl ?_
      refine pz_mul (by decide +kernel) kz_10 rfl (by omega) (by omega) (fun z22 hz22 => ?_)
      refine pe_iload_n (j := 2) (by decide +kernel) rfl ?_
      refine pz_add (by decide +kernel) hz22 rfl (by omega) (by omega) (fun z23 hz23 => ?_)
      clear hz22
      refine pz_iald (by decide +kernel) (md_a161 hc) (mlen_161 hI) hz23 (by omega) (by omega) (fun v24 ev24 => ?_)
      clear hz23
      have hb25 := (BN_w hpp0) (((10 * x2.toInt) + x1.toInt)) (by omega) (by omega)
      rw [(show fr (A 161) (((10 * x2.toInt) + x1.toInt)) = v24.toInt from congrArg Int32.toInt ev24.symm)] at hb25
      refine pe_aload_n (j := 0) (by decide +kernel) rfl ?_
      refine pe_get (j := 47) (ci := 12) (n := 25) (by decide +kernel) (by decide +kernel) (md_o hc) rfl ?_
      refine pe_bipushv (n := 10) (v := 10) (by decide +kernel) (by decide +kernel) ?_
      refine pe_iload_n (j := 1) (by decide +kernel) rfl ?_
      refine pz_mul (by decide +kernel) kz_10 rfl (by omega) (by omega) (fun z26 hz26 => ?_)
      refine pe_iload_n (j := 2) (by decide +kernel) rfl ?_
      refine pz_add (by decide +kernel) hz26 rfl (by omega) (by omega) (fun z27 hz27 => ?_)
      clear hz26
      refine pz_iald (by decide +kernel) (md_a160 hc) (mlen_160 hI) hz27 (by omega) (by omega) (fun v28 ev28 => ?_)
      clear hz27
      have hb29 := (BN_l hpp0) (((10 * x2.toInt) + x1.toInt)) (by omega) (by omega)
      rw [(show fr (A 160) (((10 * x2.toInt) + x1.toInt)) = v28.toInt from congrArg Int32.toInt ev28.symm)] at hb29
      refine pz_sub (by decide +kernel) rfl rfl (by omega) (by omega) (fun z30 hz30 => ?_)
      refine pe_aload_n (j := 0) (by decide +kernel) rfl ?_
      refine pe_get (j := 53) (ci := 12) (n := 27) (by decide +kernel) (by decide +kernel) (md_o hc) rfl ?_
      refine pe_bipushv (n := 10) (v := 10) (by decide +kernel) (by decide +kernel) ?_
      refine pe_iload_n (j := 1) (by decide +kernel) rfl ?_
      refine pz_mul (by decide +kernel) kz_10 rfl (by omega) (by omega) (fun z31 hz31 => ?_)
      refine pe_iload_n (j := 2) (by decide +kernel) rfl ?_
      refine pz_add (by decide +kernel) hz31 rfl (by omega) (by omega) (fun z32 hz32 => ?_)
      clear hz31
      refine pz_iald (by decide +kernel) (md_a162 hc) (mlen_162 hI) hz32 (by omega) (by omega) (fun v33 ev33 => ?_)
      rw [ev33.trans ev19.symm]
      clear ev33 v33
      clear hz32
      have hb34 := (BN_f hpp0) (((10 * x2.toInt) + x1.toInt)) (by omega) (by omega)
      rw [(show fr (A 162) (((10 * x2.toInt) + x1.toInt)) = v19.toInt from congrArg Int32.toInt ev19.symm)] at hb34
      refine pz_sub (by decide +kernel) hz30 rfl (by omega) (by omega) (fun z35 hz35 => ?_)
      clear hz30
      have hwv36 : wv A x2.toInt x1.toInt = v24.toInt - v28.toInt - v19.toInt := by show fr (A 161) _ - fr (A 160) _ - fr (A 162) _ = _; rw [(show fr (A 161) (((10 * x2.toInt) + x1.toInt)) = v24.toInt from congrArg Int32.toInt ev24.symm), (show fr (A 160) (((10 * x2.toInt) + x1.toInt)) = v28.toInt from congrArg Int32.toInt ev28.symm), (show fr (A 162) (((10 * x2.toInt) + x1.toInt)) = v19.toInt from congrArg Int32.toInt ev19.symm)]
      refine pe_iret (by decide +kernel) rfl rfl ⟨rfl, rfl, ?_⟩
      show pmE pg X pg_tyl pg_cl (d + 1) 295 39 [.ref 147, .int x1, .int x2, .int 1, pm_dead] [.int z35] (md wc f A) _
      refine pz_if_ge (off := 7) (t := 46) (by decide +kernel) (by decide) rfl hz35 (fun h37 => ?_) (fun h37 => ?_)
      · skip
        clear hz35
        refine pe_iconstv (n := 0) (v := 0) (by decide +kernel) (by decide +kernel) ?_
        refine pe_istore (j := 4) (ls' := [.ref 147, .int x1, .int x2, .int 1, .int 0]) (by decide +kernel) (Nat.le_of_ble_eq_true rfl) rfl ?_
        refine pe_iload (j := 4) (by decide +kernel) rfl ?_
        refine pe_iload_n (j := 3) (by decide +kernel) rfl ?_
        refine pz_icmp_ge (off := 8) (t := 60) (by decide +kernel) (by decide) rfl kz_0 kz_1 (fun h38 => by omega) (fun h38 => ?_)
        refine pe_iload (j := 4) (by decide +kernel) rfl ?_
        refine pe_goto (off := 4) (t := 61) (by decide +kernel) (by decide) rfl ?_
        have hps39 := prc_spec (wv A x1.toInt x2.toInt) (fr (A 162) (10 * x2.toInt + x1.toInt)) (wv A x2.toInt x1.toInt)
        rw [(show fr (A 162) (((10 * x2.toInt) + x1.toInt)) = v19.toInt from congrArg Int32.toInt ev19.symm)] at hps39
        exact pe_iret (by decide +kernel) rfl rfl ⟨0, rfl, ⟨(by decide +kernel), (by show _ = prc _ _ _; rw [(show fr (A 162) (((10 * x2.toInt) + x1.toInt)) = v19.toInt from congrArg Int32.toInt ev19.symm), kz_0]; omega), trivial⟩⟩
      · skip
        clear hz35
        refine pe_iconstv (n := (-1)) (v := (-1)) (by decide +kernel) (by decide +kernel) ?_
        refine pe_goto (off := 4) (t := 47) (by decide +kernel) (by decide) rfl ?_
        refine pe_istore (j := 4) (ls' := [.ref 147, .int x1, .int x2, .int 1, .int (-1)]) (by decide +kernel) (Nat.le_of_ble_eq_true rfl) rfl ?_
        refine pe_iload (j := 4) (by decide +kernel) rfl ?_
        refine pe_iload_n (j := 3) (by decide +kernel) rfl ?_
        refine pz_icmp_ge (off := 8) (t := 60) (by decide +kernel) (by decide) rfl kz_m1 kz_1 (fun h40 => by omega) (fun h40 => ?_)
        refine pe_iload (j := 4) (by decide +kernel) rfl ?_
        refine pe_goto (off := 4) (t := 61) (by decide +kernel) (by decide) rfl ?_
        have hps41 := prc_spec (wv A x1.toInt x2.toInt) (fr (A 162) (10 * x2.toInt + x1.toInt)) (wv A x2.toInt x1.toInt)
        rw [(show fr (A 162) (((10 * x2.toInt) + x1.toInt)) = v19.toInt from congrArg Int32.toInt ev19.symm)] at hps41
        exact pe_iret (by decide +kernel) rfl rfl ⟨(-1), rfl, ⟨(by decide +kernel), (by show _ = prc _ _ _; rw [(show fr (A 162) (((10 * x2.toInt) + x1.toInt)) = v19.toInt from congrArg Int32.toInt ev19.symm), kz_m1]; omega), trivial⟩⟩
    · skip
      refine pe_iconstv (n := 2) (v := 2) (by decide +kernel) (by decide +kernel) ?_
      refine pe_goto (off := 17) (t := 47) (by decide +kernel) (by decide) rfl ?_
      refine pe_istore (j := 4) (ls' := [.ref 147, .int x1, .int x2, .int 1, .int 2]) (by decide +kernel) (Nat.le_of_ble_eq_true rfl) rfl ?_
      refine pe_iload (j := 4) (by decide +kernel) rfl ?_
      refine pe_iload_n (j := 3) (by decide +kernel) rfl ?_
      refine pz_icmp_ge (off := 8) (t := 60) (by decide +kernel) (by decide) rfl kz_2 kz_1 (fun h42 => ?_) (fun h42 => by omega)
      refine pe_iload_n (j := 3) (by decide +kernel) rfl ?_
      have hps43 := prc_spec (wv A x1.toInt x2.toInt) (fr (A 162) (10 * x2.toInt + x1.toInt)) (wv A x2.toInt x1.toInt)
      rw [(show fr (A 162) (((10 * x2.toInt) + x1.toInt)) = v19.toInt from congrArg Int32.toInt ev19.symm)] at hps43
      exact pe_iret (by decide +kernel) rfl rfl ⟨1, rfl, ⟨(by decide +kernel), (by show _ = prc _ _ _; rw [(show fr (A 162) (((10 * x2.toInt) + x1.toInt)) = v19.toInt from congrArg Int32.toInt ev19.symm), kz_1]; omega), trivial⟩⟩
  · skip
    clear hz14
    refine pe_iconstv (n := 0) (v := 0) (by decide +kernel) (by decide +kernel) ?_
    refine pe_goto (off := 4) (t := 14) (by decide +kernel) (by decide) rfl ?_
    refine pe_istore_n (j := 3) (ls' := [.ref 147, .int x1, .int x2, .int 0, pm_dead]) (by decide +kernel) (Nat.le_of_ble_eq_true rfl) rfl ?_
    refine pe_aload_n (j := 0) (by decide +kernel) rfl ?_
    refine pe_get (j := 53) (ci := 12) (n := 27) (by decide +kernel) (by decide +kernel) (md_o hc) rfl ?_
    refine pe_bipushv (n := 10) (v := 10) (by decide +kernel) (by decide +kernel) ?_
    refine pe_iload_n (j := 2) (by decide +kernel) rfl ?_
    refine pz_mul (by decide +kernel) kz_10 rfl (by omega) (by omega) (fun z44 hz44 => ?_)
    refine pe_iload_n (j := 1) (by decide +kernel) rfl ?_
    refine pz_add (by decide +kernel) hz44 rfl (by omega) (by omega) (fun z45 hz45 => ?_)
    clear hz44
    refine pz_iald (by decide +kernel) (md_a162 hc) (mlen_162 hI) hz45 (by omega) (by omega) (fun v46 ev46 => ?_)
    clear hz45
    have hb47 := (BN_f hpp0) (((10 * x2.toInt) + x1.toInt)) (by omega) (by omega)
    rw [(show fr (A 162) (((10 * x2.toInt) + x1.toInt)) = v46.toInt from congrArg Int32.toInt ev46.symm)] at hb47
    refine pz_if_ne (off := 7) (t := 33) (by decide +kernel) (by decide) rfl rfl (fun h48 => ?_) (fun h48 => ?_)
    · skip
      refine pe_aload_n (j := 0) (by decide +kernel) rfl ?_
      refine pe_iload_n (j := 2) (by decide +kernel) rfl ?_
      refine pe_iload_n (j := 1) (by decide +kernel) rfl ?_
      refine pi_V (j := 349) (mj := 296) (by decide +kernel) (cll_V (args := [.int x1, .int x2]) (n := 2) (by decide +kernel) rfl rfl (md_o hc) (by decide +kernel) (Nat.le_of_ble_eq_true rfl) (Nat.le_of_ble_eq_true rfl)) ?_
      show pmE pg X pg_tyl pg_cl (d) 296 0 [.ref 147, .int x2, .int x1] [] (md wc f A) _
      refine pe_aload_n (j := 0) (by decide +kernel) rfl ?_
      refine pe_get (j := 50) (ci := 12) (n := 26) (by decide +kernel) (by decide +kernel) (md_o hc) rfl ?_
      refine pe_bipushv (n := 10) (v := 10) (by decide +kernel) (by decide +kernel) ?_
      refine pe_iload_n (j := 1) (by decide +kernel) rfl ?_
      refine pz_mul (by decide +kernel) kz_10 rfl (by omega) (by omega) (fun z49 hz49 => ?_)
      refine pe_iload_n (j := 2) (by decide +kernel) rfl ?_
      refine pz_add (by decide +kernel) hz49 rfl (by omega) (by omega) (fun z50 hz50 => ?_)
      clear hz49
      refine pz_iald (by decide +kernel) (md_a161 hc) (mlen_161 hI) hz50 (by omega) (by omega) (fun v51 ev51 => ?_)
      clear hz50
      have hb52 := (BN_w hpp0) (((10 * x2.toInt) + x1.toInt)) (by omega) (by omega)
      rw [(show fr (A 161) (((10 * x2.toInt) + x1.toInt)) = v51.toInt from congrArg Int32.toInt ev51.symm)] at hb52
      refine pe_aload_n (j := 0) (by decide +kernel) rfl ?_
      refine pe_get (j := 47) (ci := 12) (n := 25) (by decide +kernel) (by decide +kernel) (md_o hc) rfl ?_
      refine pe_bipushv (n := 10) (v := 10) (by decide +kernel) (by decide +kernel) ?_
      refine pe_iload_n (j := 1) (by decide +kernel) rfl ?_
      refine pz_mul (by decide +kernel) kz_10 rfl (by omega) (by omega) (fun z53 hz53 => ?_)
      refine pe_iload_n (j := 2) (by decide +kernel) rfl ?_
      refine pz_add (by decide +kernel) hz53 rfl (by omega) (by omega) (fun z54 hz54 => ?_)
      clear hz53
      refine pz_iald (by decide +kernel) (md_a160 hc) (mlen_160 hI) hz54 (by omega) (by omega) (fun v55 ev55 => ?_)
      clear hz54
      have hb56 := (BN_l hpp0) (((10 * x2.toInt) + x1.toInt)) (by omega) (by omega)
      rw [(show fr (A 160) (((10 * x2.toInt) + x1.toInt)) = v55.toInt from congrArg Int32.toInt ev55.symm)] at hb56
      refine pz_sub (by decide +kernel) rfl rfl (by omega) (by omega) (fun z57 hz57 => ?_)
      refine pe_aload_n (j := 0) (by decide +kernel) rfl ?_
      refine pe_get (j := 53) (ci := 12) (n := 27) (by decide +kernel) (by decide +kernel) (md_o hc) rfl ?_
      refine pe_bipushv (n := 10) (v := 10) (by decide +kernel) (by decide +kernel) ?_
      refine pe_iload_n (j := 1) (by decide +kernel) rfl ?_
      refine pz_mul (by decide +kernel) kz_10 rfl (by omega) (by omega) (fun z58 hz58 => ?_)
      refine pe_iload_n (j := 2) (by decide +kernel) rfl ?_
      refine pz_add (by decide +kernel) hz58 rfl (by omega) (by omega) (fun z59 hz59 => ?_)
      clear hz58
      refine pz_iald (by decide +kernel) (md_a162 hc) (mlen_162 hI) hz59 (by omega) (by omega) (fun v60 ev60 => ?_)
      rw [ev60.trans ev46.symm]
      clear ev60 v60
      clear hz59
      have hb61 := (BN_f hpp0) (((10 * x2.toInt) + x1.toInt)) (by omega) (by omega)
      rw [(show fr (A 162) (((10 * x2.toInt) + x1.toInt)) = v46.toInt from congrArg Int32.toInt ev46.symm)] at hb61
      refine pz_sub (by decide +kernel) hz57 rfl (by omega) (by omega) (fun z62 hz62 => ?_)
      clear hz57
      have hwv63 : wv A x2.toInt x1.toInt = v51.toInt - v55.toInt - v46.toInt := by show fr (A 161) _ - fr (A 160) _ - fr (A 162) _ = _; rw [(show fr (A 161) (((10 * x2.toInt) + x1.toInt)) = v51.toInt from congrArg Int32.toInt ev51.symm), (show fr (A 160) (((10 * x2.toInt) + x1.toInt)) = v55.toInt from congrArg Int32.toInt ev55.symm), (show fr (A 162) (((10 * x2.toInt) + x1.toInt)) = v46.toInt from congrArg Int32.toInt ev46.symm)]
      refine pe_iret (by decide +kernel) rfl rfl ⟨rfl, rfl, ?_⟩
      show pmE pg X pg_tyl pg_cl (d + 1) 295 39 [.ref 147, .int x1, .int x2, .int 0, pm_dead] [.int z62] (md wc f A) _
      refine pz_if_ge (off := 7) (t := 46) (by decide +kernel) (by decide) rfl hz62 (fun h64 => ?_) (fun h64 => ?_)
      · skip
        clear hz62
        refine pe_iconstv (n := 0) (v := 0) (by decide +kernel) (by decide +kernel) ?_
        refine pe_istore (j := 4) (ls' := [.ref 147, .int x1, .int x2, .int 0, .int 0]) (by decide +kernel) (Nat.le_of_ble_eq_true rfl) rfl ?_
        refine pe_iload (j := 4) (by decide +kernel) rfl ?_
        refine pe_iload_n (j := 3) (by decide +kernel) rfl ?_
        refine pz_icmp_ge (off := 8) (t := 60) (by decide +kernel) (by decide) rfl kz_0 kz_0 (fun h65 => ?_) (fun h65 => by omega)
        refine pe_iload_n (j := 3) (by decide +kernel) rfl ?_
        have hps66 := prc_spec (wv A x1.toInt x2.toInt) (fr (A 162) (10 * x2.toInt + x1.toInt)) (wv A x2.toInt x1.toInt)
        rw [(show fr (A 162) (((10 * x2.toInt) + x1.toInt)) = v46.toInt from congrArg Int32.toInt ev46.symm)] at hps66
        exact pe_iret (by decide +kernel) rfl rfl ⟨0, rfl, ⟨(by decide +kernel), (by show _ = prc _ _ _; rw [(show fr (A 162) (((10 * x2.toInt) + x1.toInt)) = v46.toInt from congrArg Int32.toInt ev46.symm), kz_0]; omega), trivial⟩⟩
      · skip
        clear hz62
        refine pe_iconstv (n := (-1)) (v := (-1)) (by decide +kernel) (by decide +kernel) ?_
        refine pe_goto (off := 4) (t := 47) (by decide +kernel) (by decide) rfl ?_
        refine pe_istore (j := 4) (ls' := [.ref 147, .int x1, .int x2, .int 0, .int (-1)]) (by decide +kernel) (Nat.le_of_ble_eq_true rfl) rfl ?_
        refine pe_iload (j := 4) (by decide +kernel) rfl ?_
        refine pe_iload_n (j := 3) (by decide +kernel) rfl ?_
        refine pz_icmp_ge (off := 8) (t := 60) (by decide +kernel) (by decide) rfl kz_m1 kz_0 (fun h67 => by omega) (fun h67 => ?_)
        refine pe_iload (j := 4) (by decide +kernel) rfl ?_
        refine pe_goto (off := 4) (t := 61) (by decide +kernel) (by decide) rfl ?_
        have hps68 := prc_spec (wv A x1.toInt x2.toInt) (fr (A 162) (10 * x2.toInt + x1.toInt)) (wv A x2.toInt x1.toInt)
        rw [(show fr (A 162) (((10 * x2.toInt) + x1.toInt)) = v46.toInt from congrArg Int32.toInt ev46.symm)] at hps68
        exact pe_iret (by decide +kernel) rfl rfl ⟨(-1), rfl, ⟨(by decide +kernel), (by show _ = prc _ _ _; rw [(show fr (A 162) (((10 * x2.toInt) + x1.toInt)) = v46.toInt from congrArg Int32.toInt ev46.symm), kz_m1]; omega), trivial⟩⟩
    · skip
      refine pe_iconstv (n := 2) (v := 2) (by decide +kernel) (by decide +kernel) ?_
      refine pe_goto (off := 17) (t := 47) (by decide +kernel) (by decide) rfl ?_
      refine pe_istore (j := 4) (ls' := [.ref 147, .int x1, .int x2, .int 0, .int 2]) (by decide +kernel) (Nat.le_of_ble_eq_true rfl) rfl ?_
      refine pe_iload (j := 4) (by decide +kernel) rfl ?_
      refine pe_iload_n (j := 3) (by decide +kernel) rfl ?_
      refine pz_icmp_ge (off := 8) (t := 60) (by decide +kernel) (by decide) rfl kz_2 kz_0 (fun h69 => ?_) (fun h69 => by omega)
      refine pe_iload_n (j := 3) (by decide +kernel) rfl ?_
      have hps70 := prc_spec (wv A x1.toInt x2.toInt) (fr (A 162) (10 * x2.toInt + x1.toInt)) (wv A x2.toInt x1.toInt)
      rw [(show fr (A 162) (((10 * x2.toInt) + x1.toInt)) = v46.toInt from congrArg Int32.toInt ev46.symm)] at hps70
      exact pe_iret (by decide +kernel) rfl rfl ⟨0, rfl, ⟨(by decide +kernel), (by show _ = prc _ _ _; rw [(show fr (A 162) (((10 * x2.toInt) + x1.toInt)) = v46.toInt from congrArg Int32.toInt ev46.symm), kz_0]; omega), trivial⟩⟩
end
section
set_option maxRecDepth 100000 in
set_option maxHeartbeats 8000000 in
theorem NM_231 {X : pm_X} {d : Nat} {wc : pm_W} {f : Nat → Int32} {A : Nat → List Int32} {x1 x2 x3 : Int32} (hc : wc.length = 147) (hI : MI f A) (gx1 : (610 ≤ x1.toInt ∧ x1.toInt ≤ 742 ∧ (x1.toInt - 610) % 132 = 0)) (gx2 : (0 ≤ x2.toInt ∧ x2.toInt ≤ 8)) (gx3 : (0 ≤ x3.toInt ∧ x3.toInt ≤ 8)) (hpp0 : N0 (A 152)) : pmE pg X pg_tyl pg_cl (d + 1) 231 0 (pm_ent (pm_max pg 231) [.ref 147, .int x1, .int x2, .int x3]) [] (md wc f A) (fun q => ∃ (r : Int32), q = (some (.int r), md wc f A, 0, 0) ∧ ((-1) * r.toInt) ≤ 0 ∧ ((((-99) ≤ r.toInt ∧ r.toInt ≤ 99) ∧ True))) := by
  show pmE pg X pg_tyl pg_cl (d + 1) 231 0 [.ref 147, .int x1, .int x2, .int x3, pm_dead] [] (md wc f A) _
  refine pe_iload_n (j := 2) (by decide +kernel) rfl ?_
  refine pe_iload_n (j := 3) (by decide +kernel) rfl ?_
  refine pz_icmp_ne (off := 7) (t := 9) (by decide +kernel) (by decide) rfl rfl rfl (fun h1 => ?_) (fun h1 => ?_)
  · skip
    refine pe_aload_n (j := 0) (by decide +kernel) rfl ?_
    refine pe_get (j := 7) (ci := 12) (n := 0) (by decide +kernel) (by decide +kernel) (md_o hc) rfl ?_
    refine pe_iload_n (j := 1) (by decide +kernel) rfl ?_
    refine pe_iconstv (n := 3) (v := 3) (by decide +kernel) (by decide +kernel) ?_
    refine pz_add (by decide +kernel) rfl kz_3 (by omega) (by omega) (fun z2 hz2 => ?_)
    refine pe_bipushv (n := 9) (v := 9) (by decide +kernel) (by decide +kernel) ?_
    refine pe_iload_n (j := 3) (by decide +kernel) rfl ?_
    refine pz_mul (by decide +kernel) kz_9 rfl (by omega) (by omega) (fun z3 hz3 => ?_)
    refine pz_add (by decide +kernel) hz2 hz3 (by omega) (by omega) (fun z4 hz4 => ?_)
    clear hz2 hz3
    refine pe_iload_n (j := 2) (by decide +kernel) rfl ?_
    refine pz_add (by decide +kernel) hz4 rfl (by omega) (by omega) (fun z5 hz5 => ?_)
    clear hz4
    refine pz_iald (by decide +kernel) (md_a148 hc) (mlen_148 hI) hz5 (by omega) (by omega) (fun v6 ev6 => ?_)
    have rv6 : 0 ≤ v6.toInt ∧ v6.toInt ≤ 99 := mwd (v := x1.toInt) hI ev6 (by omega) (by omega) (by omega)
    clear hz5
    refine pe_aload_n (j := 0) (by decide +kernel) rfl ?_
    refine pe_iload_n (j := 2) (by decide +kernel) rfl ?_
    refine pe_iload_n (j := 3) (by decide +kernel) rfl ?_
    refine pi_V (j := 181) (mj := 232) (by decide +kernel) (cll_V (args := [.int x3, .int x2]) (n := 2) (by decide +kernel) rfl rfl (md_o hc) (by decide +kernel) (Nat.le_of_ble_eq_true rfl) (Nat.le_of_ble_eq_true rfl)) ?_
    show pmE pg X pg_tyl pg_cl (d) 232 0 [.ref 147, .int x2, .int x3] [] (md wc f A) _
    refine pe_aload_n (j := 0) (by decide +kernel) rfl ?_
    refine pe_get (j := 23) (ci := 12) (n := 12) (by decide +kernel) (by decide +kernel) (md_o hc) rfl ?_
    refine pe_bipushv (n := 9) (v := 9) (by decide +kernel) (by decide +kernel) ?_
    refine pe_iload_n (j := 1) (by decide +kernel) rfl ?_
    refine pz_mul (by decide +kernel) kz_9 rfl (by omega) (by omega) (fun z7 hz7 => ?_)
    refine pe_iload_n (j := 2) (by decide +kernel) rfl ?_
    refine pz_add (by decide +kernel) hz7 rfl (by omega) (by omega) (fun z8 hz8 => ?_)
    clear hz7
    refine pz_iald (by decide +kernel) (md_a152 hc) (mlen_152 hI) hz8 (by omega) (by omega) (fun v9 ev9 => ?_)
    clear hz8
    have hb10 := hpp0 (((9 * x2.toInt) + x3.toInt)) (by omega) (by omega)
    rw [(show fr (A 152) (((9 * x2.toInt) + x3.toInt)) = v9.toInt from congrArg Int32.toInt ev9.symm)] at hb10
    refine pe_iret (by decide +kernel) rfl rfl ⟨rfl, rfl, ?_⟩
    show pmE pg X pg_tyl pg_cl (d + 1) 231 30 [.ref 147, .int x1, .int x2, .int x3, pm_dead] [.int v9, .int v6] (md wc f A) _
    refine pz_sub (by decide +kernel) rfl rfl (by omega) (by omega) (fun z11 hz11 => ?_)
    refine pe_istore (j := 4) (ls' := [.ref 147, .int x1, .int x2, .int x3, .int z11]) (by decide +kernel) (Nat.le_of_ble_eq_true rfl) rfl ?_
    refine pe_iload (j := 4) (by decide +kernel) rfl ?_
    refine pz_if_ge (off := 7) (t := 42) (by decide +kernel) (by decide) rfl hz11 (fun h12 => ?_) (fun h12 => ?_)
    · skip
      refine pe_iload (j := 4) (by decide +kernel) rfl ?_
      exact pe_iret (by decide +kernel) rfl rfl ⟨z11, rfl, (by omega), ⟨(by omega), trivial⟩⟩
    · skip
      refine pe_iconstv (n := 0) (v := 0) (by decide +kernel) (by decide +kernel) ?_
      refine pe_goto (off := 5) (t := 44) (by decide +kernel) (by decide) rfl ?_
      have hl13 := kz_0
      exact pe_iret (by decide +kernel) rfl rfl ⟨0, rfl, (by omega), ⟨(by decide +kernel), trivial⟩⟩
  · skip
    refine pe_iconstv (n := 0) (v := 0) (by decide +kernel) (by decide +kernel) ?_
    refine pe_goto (off := 25) (t := 31) (by decide +kernel) (by decide) rfl ?_
    refine pe_istore (j := 4) (ls' := [.ref 147, .int x1, .int x2, .int x3, .int 0]) (by decide +kernel) (Nat.le_of_ble_eq_true rfl) rfl ?_
    refine pe_iload (j := 4) (by decide +kernel) rfl ?_
    refine pz_if_ge (off := 7) (t := 42) (by decide +kernel) (by decide) rfl kz_0 (fun h14 => ?_) (fun h14 => by omega)
    refine pe_iload (j := 4) (by decide +kernel) rfl ?_
    have hl15 := kz_0
    exact pe_iret (by decide +kernel) rfl rfl ⟨0, rfl, (by omega), ⟨(by decide +kernel), trivial⟩⟩
set_option maxRecDepth 100000 in
set_option maxHeartbeats 8000000 in
theorem NL_294_242 {X : pm_X} {d : Nat} {wc : pm_W} {Q : pm_R → Prop} {f : Nat → Int32} {A0 : Nat → List Int32} {x1 x2 : Int32} {rk : Int → Nat} (hc : wc.length = 147) (gx1 : (610 ≤ x1.toInt ∧ x1.toInt ≤ 742 ∧ (x1.toInt - 610) % 132 = 0)) (gx2 : (0 ≤ x2.toInt ∧ x2.toInt ≤ 8)) (hpk0 : GW A0 rk (fr (A0 148) x1.toInt)) (hpk1 : BN A0 20001) (hpk2 : 0 ≤ (fr (A0 148) x1.toInt) ∧ (fr (A0 148) x1.toInt) ≤ 9) (k_361_0 : ∀ (A' : Nat → List Int32) (y3 : Int32) (v4 : Value) (v5 : Value), MI f A' → (∀ k : Nat, k ≠ 162 → A' k = A0 k) → (0 ≤ y3.toInt ∧ y3.toInt ≤ 8) → PW A' A0 rk (fr (A0 148) x1.toInt) y3.toInt → y3.toInt < (fr (A0 148) x1.toInt) → fr (A0 164) y3.toInt = y3.toInt → pmE pg X pg_tyl pg_cl (d + 2) 294 361 [.ref 147, .int x1, .int x2, .int y3, v4, v5] [] (md wc f A') Q) : ∀ (m : Nat) (A : Nat → List Int32) (x3 : Int32) (u4 : Value) (u5 : Value), MI f A → (∀ k : Nat, k ≠ 162 → A k = A0 k) → (0 ≤ x3.toInt ∧ x3.toInt ≤ 8) → PW A A0 rk (fr (A0 148) x1.toInt) x3.toInt → x3.toInt < (fr (A0 148) x1.toInt) → rk x3.toInt < m → pmE pg X pg_tyl pg_cl (d + 2) 294 242 [.ref 147, .int x1, .int x2, .int x3, u4, u5] [] (md wc f A) Q := by
  intro m
  induction m with
  | zero =>
    intro A x3 u4 u5 hI hF gx3 hpi0 hpi1 hm
    exfalso
    exact absurd hm (Nat.not_lt_zero _)
  | succ m ih =>
    intro A x3 u4 u5 hI hF gx3 hpi0 hpi1 hm
    refine pe_aload_n (j := 0) (by decide +kernel) rfl ?_
    refine pe_get (j := 59) (ci := 12) (n := 29) (by decide +kernel) (by decide +kernel) (md_o hc) rfl ?_
    refine pe_iload_n (j := 3) (by decide +kernel) rfl ?_
    refine pz_iald (by decide +kernel) (md_a164 hc) (mlen_164 hI) rfl (by omega) (by omega) (fun v1 ev1 => ?_)
    have rv1 : (-1) ≤ v1.toInt ∧ v1.toInt ≤ 9 := mp_164 hI ev1
    rw [show A 164 = A0 164 from (hF 164 (by decide))] at ev1
    refine pe_iload_n (j := 3) (by decide +kernel) rfl ?_
    refine pz_icmp_eq (off := 112) (t := 361) (by decide +kernel) (by decide) rfl rfl rfl (fun h2 => ?_) (fun h2 => ?_)
    · skip
      exact k_361_0 A x3 (u4) (u5) hI (fun k n162 => (hF k n162)) (by omega) hpi0 hpi1 (by rw [(show fr (A0 164) (x3.toInt) = v1.toInt from congrArg Int32.toInt ev1.symm)]; omega)
    · skip
      have hpn3 := PW_not hpk0 (by omega) hpi1 (by rw [(show fr (A0 164) (x3.toInt) = v1.toInt from congrArg Int32.toInt ev1.symm)]; omega)
      rw [(show fr (A0 164) (x3.toInt) = v1.toInt from congrArg Int32.toInt ev1.symm)] at hpn3
      have hpp4 := hpk2
      refine pe_aload_n (j := 0) (by decide +kernel) rfl ?_
      refine pe_get (j := 59) (ci := 12) (n := 29) (by decide +kernel) (by decide +kernel) (md_o hc) rfl ?_
      refine pe_iload_n (j := 3) (by decide +kernel) rfl ?_
      refine pz_iald (by decide +kernel) (md_a164 hc) (mlen_164 hI) rfl (by omega) (by omega) (fun v5 ev5 => ?_)
      rw [show A 164 = A0 164 from (hF 164 (by decide))] at ev5
      rw [ev5.trans ev1.symm]
      clear ev5 v5
      refine pe_istore (j := 4) (ls' := [.ref 147, .int x1, .int x2, .int x3, .int v1, u5]) (by decide +kernel) (Nat.le_of_ble_eq_true rfl) rfl ?_
      refine pe_aload_n (j := 0) (by decide +kernel) rfl ?_
      refine pe_get (j := 53) (ci := 12) (n := 27) (by decide +kernel) (by decide +kernel) (md_o hc) rfl ?_
      refine pe_bipushv (n := 10) (v := 10) (by decide +kernel) (by decide +kernel) ?_
      refine pe_iload_n (j := 3) (by decide +kernel) rfl ?_
      refine pz_mul (by decide +kernel) kz_10 rfl (by omega) (by omega) (fun z6 hz6 => ?_)
      refine pe_iload (j := 4) (by decide +kernel) rfl ?_
      refine pz_add (by decide +kernel) hz6 rfl (by omega) (by omega) (fun z7 hz7 => ?_)
      clear hz6
      refine pz_iald (by decide +kernel) (md_a162 hc) (mlen_162 hI) hz7 (by omega) (by omega) (fun v8 ev8 => ?_)
      clear hz7
      have hb9 := (PW_b hpi0 hpk1 (by decide)) (((10 * x3.toInt) + v1.toInt)) (by omega) (by omega)
      rw [(show fr (A 162) (((10 * x3.toInt) + v1.toInt)) = v8.toInt from congrArg Int32.toInt ev8.symm)] at hb9
      refine pz_if_le (off := 40) (t := 312) (by decide +kernel) (by decide) rfl rfl (fun h10 => ?_) (fun h10 => ?_)
      · skip
        refine pe_iconstv (n := 0) (v := 0) (by decide +kernel) (by decide +kernel) ?_
        refine pe_istore (j := 5) (ls' := [.ref 147, .int x1, .int x2, .int x3, .int v1, .int 0]) (by decide +kernel) (Nat.le_of_ble_eq_true rfl) rfl ?_
        refine pe_iload (j := 5) (by decide +kernel) rfl ?_
        refine pz_if_eq (off := 22) (t := 339) (by decide +kernel) (by decide) rfl kz_0 (fun h11 => ?_) (fun h11 => by omega)
        refine pe_aload_n (j := 0) (by decide +kernel) rfl ?_
        refine pe_get (j := 53) (ci := 12) (n := 27) (by decide +kernel) (by decide +kernel) (md_o hc) rfl ?_
        refine pe_bipushv (n := 10) (v := 10) (by decide +kernel) (by decide +kernel) ?_
        refine pe_iload (j := 4) (by decide +kernel) rfl ?_
        refine pz_mul (by decide +kernel) kz_10 rfl (by omega) (by omega) (fun z12 hz12 => ?_)
        refine pe_iload_n (j := 3) (by decide +kernel) rfl ?_
        refine pz_add (by decide +kernel) hz12 rfl (by omega) (by omega) (fun z13 hz13 => ?_)
        clear hz12
        refine pe_dup2 (by decide +kernel) ⟨rfl, rfl⟩ ?_
        refine pz_iald (by decide +kernel) (md_a162 hc) (mlen_162 hI) hz13 (by omega) (by omega) (fun v14 ev14 => ?_)
        have hb15 := (PW_b hpi0 hpk1 (by decide)) (((10 * v1.toInt) + x3.toInt)) (by omega) (by omega)
        rw [(show fr (A 162) (((10 * v1.toInt) + x3.toInt)) = v14.toInt from congrArg Int32.toInt ev14.symm)] at hb15
        refine pe_iconstv (n := 1) (v := 1) (by decide +kernel) (by decide +kernel) ?_
        refine pz_add (by decide +kernel) rfl kz_1 (by omega) (by omega) (fun z16 hz16 => ?_)
        refine mz_st162 (by decide +kernel) hc hI hz13 (by omega) (by omega) (fun A17 eA17 hIA17 => ?_)
        refine pe_iload (j := 4) (by decide +kernel) rfl ?_
        refine pe_istore_n (j := 3) (ls' := [.ref 147, .int x1, .int x2, .int v1, .int v1, .int 0]) (by decide +kernel) (Nat.le_of_ble_eq_true rfl) rfl ?_
        refine pe_goto (off := (-116)) (t := 242) (by decide +kernel) (by decide) rfl ?_
        exact ih A17 v1 (.int v1) (.int 0) hIA17 (fun k n162 => (upa_fr eA17 n162).trans ((hF k n162))) (by omega) (PW_step (a := v1.toInt) (i := ((10 * v1.toInt) + x3.toInt)) hpi0 hpk0 hpk2.2 (mlen_162 hI) (by omega) hpi1 (by rw [(show fr (A0 164) (x3.toInt) = v1.toInt from congrArg Int32.toInt ev1.symm)]; omega) (show fr (A0 164) (x3.toInt) = v1.toInt from congrArg Int32.toInt ev1.symm) eA17 (Or.inr ⟨rfl, by rw [(show fr (A 162) (((10 * v1.toInt) + x3.toInt)) = v14.toInt from congrArg Int32.toInt ev14.symm)]; omega, Or.inl (by rw [(show fr (A 162) (((10 * x3.toInt) + v1.toInt)) = v8.toInt from congrArg Int32.toInt ev8.symm)]; omega)⟩)) hpn3.2.2.1 (Nat.lt_of_lt_of_le hpn3.2.2.2 (Nat.le_of_lt_succ hm))
      · skip
        refine pe_aload_n (j := 0) (by decide +kernel) rfl ?_
        refine pe_iload_n (j := 3) (by decide +kernel) rfl ?_
        refine pe_iload (j := 4) (by decide +kernel) rfl ?_
        refine pi_V (j := 349) (mj := 296) (by decide +kernel) (cll_V (args := [.int v1, .int x3]) (n := 2) (by decide +kernel) rfl rfl (md_o hc) (by decide +kernel) (Nat.le_of_ble_eq_true rfl) (Nat.le_of_ble_eq_true rfl)) ?_
        show pmE pg X pg_tyl pg_cl (d + 1) 296 0 [.ref 147, .int x3, .int v1] [] (md wc f A) _
        refine pe_aload_n (j := 0) (by decide +kernel) rfl ?_
        refine pe_get (j := 50) (ci := 12) (n := 26) (by decide +kernel) (by decide +kernel) (md_o hc) rfl ?_
        refine pe_bipushv (n := 10) (v := 10) (by decide +kernel) (by decide +kernel) ?_
        refine pe_iload_n (j := 1) (by decide +kernel) rfl ?_
        refine pz_mul (by decide +kernel) kz_10 rfl (by omega) (by omega) (fun z18 hz18 => ?_)
        refine pe_iload_n (j := 2) (by decide +kernel) rfl ?_
        refine pz_add (by decide +kernel) hz18 rfl (by omega) (by omega) (fun z19 hz19 => ?_)
        clear hz18
        refine pz_iald (by decide +kernel) (md_a161 hc) (mlen_161 hI) hz19 (by omega) (by omega) (fun v20 ev20 => ?_)
        rw [show A 161 = A0 161 from (hF 161 (by decide))] at ev20
        clear hz19
        have hb21 := (BN_w hpk1) (((10 * x3.toInt) + v1.toInt)) (by omega) (by omega)
        rw [(show fr (A0 161) (((10 * x3.toInt) + v1.toInt)) = v20.toInt from congrArg Int32.toInt ev20.symm)] at hb21
        refine pe_aload_n (j := 0) (by decide +kernel) rfl ?_
        refine pe_get (j := 47) (ci := 12) (n := 25) (by decide +kernel) (by decide +kernel) (md_o hc) rfl ?_
        refine pe_bipushv (n := 10) (v := 10) (by decide +kernel) (by decide +kernel) ?_
        refine pe_iload_n (j := 1) (by decide +kernel) rfl ?_
        refine pz_mul (by decide +kernel) kz_10 rfl (by omega) (by omega) (fun z22 hz22 => ?_)
        refine pe_iload_n (j := 2) (by decide +kernel) rfl ?_
        refine pz_add (by decide +kernel) hz22 rfl (by omega) (by omega) (fun z23 hz23 => ?_)
        clear hz22
        refine pz_iald (by decide +kernel) (md_a160 hc) (mlen_160 hI) hz23 (by omega) (by omega) (fun v24 ev24 => ?_)
        rw [show A 160 = A0 160 from (hF 160 (by decide))] at ev24
        clear hz23
        have hb25 := (BN_l hpk1) (((10 * x3.toInt) + v1.toInt)) (by omega) (by omega)
        rw [(show fr (A0 160) (((10 * x3.toInt) + v1.toInt)) = v24.toInt from congrArg Int32.toInt ev24.symm)] at hb25
        refine pz_sub (by decide +kernel) rfl rfl (by omega) (by omega) (fun z26 hz26 => ?_)
        refine pe_aload_n (j := 0) (by decide +kernel) rfl ?_
        refine pe_get (j := 53) (ci := 12) (n := 27) (by decide +kernel) (by decide +kernel) (md_o hc) rfl ?_
        refine pe_bipushv (n := 10) (v := 10) (by decide +kernel) (by decide +kernel) ?_
        refine pe_iload_n (j := 1) (by decide +kernel) rfl ?_
        refine pz_mul (by decide +kernel) kz_10 rfl (by omega) (by omega) (fun z27 hz27 => ?_)
        refine pe_iload_n (j := 2) (by decide +kernel) rfl ?_
        refine pz_add (by decide +kernel) hz27 rfl (by omega) (by omega) (fun z28 hz28 => ?_)
        clear hz27
        refine pz_iald (by decide +kernel) (md_a162 hc) (mlen_162 hI) hz28 (by omega) (by omega) (fun v29 ev29 => ?_)
        rw [ev29.trans ev8.symm]
        clear ev29 v29
        clear hz28
        have hb30 := (PW_b hpi0 hpk1 (by decide)) (((10 * x3.toInt) + v1.toInt)) (by omega) (by omega)
        rw [(show fr (A 162) (((10 * x3.toInt) + v1.toInt)) = v8.toInt from congrArg Int32.toInt ev8.symm)] at hb30
        refine pz_sub (by decide +kernel) hz26 rfl (by omega) (by omega) (fun z31 hz31 => ?_)
        clear hz26
        have hwv32 : wv A x3.toInt v1.toInt = v20.toInt - v24.toInt - v8.toInt := by show fr (A 161) _ - fr (A 160) _ - fr (A 162) _ = _; rw [show A 161 = A0 161 from (hF 161 (by decide)), show A 160 = A0 160 from (hF 160 (by decide)), (show fr (A0 161) (((10 * x3.toInt) + v1.toInt)) = v20.toInt from congrArg Int32.toInt ev20.symm), (show fr (A0 160) (((10 * x3.toInt) + v1.toInt)) = v24.toInt from congrArg Int32.toInt ev24.symm), (show fr (A 162) (((10 * x3.toInt) + v1.toInt)) = v8.toInt from congrArg Int32.toInt ev8.symm)]
        refine pe_iret (by decide +kernel) rfl rfl ⟨rfl, rfl, ?_⟩
        show pmE pg X pg_tyl pg_cl (d + 2) 294 282 [.ref 147, .int x1, .int x2, .int x3, .int v1, u5] [.int z31] (md wc f A) _
        refine pz_if_ge (off := 7) (t := 289) (by decide +kernel) (by decide) rfl hz31 (fun h33 => ?_) (fun h33 => ?_)
        · skip
          clear hz31
          refine pe_iconstv (n := 0) (v := 0) (by decide +kernel) (by decide +kernel) ?_
          refine pe_aload_n (j := 0) (by decide +kernel) rfl ?_
          refine pe_iload (j := 4) (by decide +kernel) rfl ?_
          refine pe_iload_n (j := 3) (by decide +kernel) rfl ?_
          refine pi_V (j := 349) (mj := 296) (by decide +kernel) (cll_V (args := [.int x3, .int v1]) (n := 2) (by decide +kernel) rfl rfl (md_o hc) (by decide +kernel) (Nat.le_of_ble_eq_true rfl) (Nat.le_of_ble_eq_true rfl)) ?_
          show pmE pg X pg_tyl pg_cl (d + 1) 296 0 [.ref 147, .int v1, .int x3] [] (md wc f A) _
          refine pe_aload_n (j := 0) (by decide +kernel) rfl ?_
          refine pe_get (j := 50) (ci := 12) (n := 26) (by decide +kernel) (by decide +kernel) (md_o hc) rfl ?_
          refine pe_bipushv (n := 10) (v := 10) (by decide +kernel) (by decide +kernel) ?_
          refine pe_iload_n (j := 1) (by decide +kernel) rfl ?_
          refine pz_mul (by decide +kernel) kz_10 rfl (by omega) (by omega) (fun z34 hz34 => ?_)
          refine pe_iload_n (j := 2) (by decide +kernel) rfl ?_
          refine pz_add (by decide +kernel) hz34 rfl (by omega) (by omega) (fun z35 hz35 => ?_)
          clear hz34
          refine pz_iald (by decide +kernel) (md_a161 hc) (mlen_161 hI) hz35 (by omega) (by omega) (fun v36 ev36 => ?_)
          rw [show A 161 = A0 161 from (hF 161 (by decide))] at ev36
          clear hz35
          have hb37 := (BN_w hpk1) (((10 * v1.toInt) + x3.toInt)) (by omega) (by omega)
          rw [(show fr (A0 161) (((10 * v1.toInt) + x3.toInt)) = v36.toInt from congrArg Int32.toInt ev36.symm)] at hb37
          refine pe_aload_n (j := 0) (by decide +kernel) rfl ?_
          refine pe_get (j := 47) (ci := 12) (n := 25) (by decide +kernel) (by decide +kernel) (md_o hc) rfl ?_
          refine pe_bipushv (n := 10) (v := 10) (by decide +kernel) (by decide +kernel) ?_
          refine pe_iload_n (j := 1) (by decide +kernel) rfl ?_
          refine pz_mul (by decide +kernel) kz_10 rfl (by omega) (by omega) (fun z38 hz38 => ?_)
          refine pe_iload_n (j := 2) (by decide +kernel) rfl ?_
          refine pz_add (by decide +kernel) hz38 rfl (by omega) (by omega) (fun z39 hz39 => ?_)
          clear hz38
          refine pz_iald (by decide +kernel) (md_a160 hc) (mlen_160 hI) hz39 (by omega) (by omega) (fun v40 ev40 => ?_)
          rw [show A 160 = A0 160 from (hF 160 (by decide))] at ev40
          clear hz39
          have hb41 := (BN_l hpk1) (((10 * v1.toInt) + x3.toInt)) (by omega) (by omega)
          rw [(show fr (A0 160) (((10 * v1.toInt) + x3.toInt)) = v40.toInt from congrArg Int32.toInt ev40.symm)] at hb41
          refine pz_sub (by decide +kernel) rfl rfl (by omega) (by omega) (fun z42 hz42 => ?_)
          refine pe_aload_n (j := 0) (by decide +kernel) rfl ?_
          refine pe_get (j := 53) (ci := 12) (n := 27) (by decide +kernel) (by decide +kernel) (md_o hc) rfl ?_
          refine pe_bipushv (n := 10) (v := 10) (by decide +kernel) (by decide +kernel) ?_
          refine pe_iload_n (j := 1) (by decide +kernel) rfl ?_
          refine pz_mul (by decide +kernel) kz_10 rfl (by omega) (by omega) (fun z43 hz43 => ?_)
          refine pe_iload_n (j := 2) (by decide +kernel) rfl ?_
          refine pz_add (by decide +kernel) hz43 rfl (by omega) (by omega) (fun z44 hz44 => ?_)
          clear hz43
          refine pz_iald (by decide +kernel) (md_a162 hc) (mlen_162 hI) hz44 (by omega) (by omega) (fun v45 ev45 => ?_)
          clear hz44
          have hb46 := (PW_b hpi0 hpk1 (by decide)) (((10 * v1.toInt) + x3.toInt)) (by omega) (by omega)
          rw [(show fr (A 162) (((10 * v1.toInt) + x3.toInt)) = v45.toInt from congrArg Int32.toInt ev45.symm)] at hb46
          refine pz_sub (by decide +kernel) hz42 rfl (by omega) (by omega) (fun z47 hz47 => ?_)
          clear hz42
          have hwv48 : wv A v1.toInt x3.toInt = v36.toInt - v40.toInt - v45.toInt := by show fr (A 161) _ - fr (A 160) _ - fr (A 162) _ = _; rw [show A 161 = A0 161 from (hF 161 (by decide)), show A 160 = A0 160 from (hF 160 (by decide)), (show fr (A0 161) (((10 * v1.toInt) + x3.toInt)) = v36.toInt from congrArg Int32.toInt ev36.symm), (show fr (A0 160) (((10 * v1.toInt) + x3.toInt)) = v40.toInt from congrArg Int32.toInt ev40.symm), (show fr (A 162) (((10 * v1.toInt) + x3.toInt)) = v45.toInt from congrArg Int32.toInt ev45.symm)]
          refine pe_iret (by decide +kernel) rfl rfl ⟨rfl, rfl, ?_⟩
          show pmE pg X pg_tyl pg_cl (d + 2) 294 297 [.ref 147, .int x1, .int x2, .int x3, .int v1, u5] [.int z47, .int 0] (md wc f A) _
          refine pz_if_le (off := 7) (t := 304) (by decide +kernel) (by decide) rfl hz47 (fun h49 => ?_) (fun h49 => ?_)
          · skip
            clear hz47
            refine pe_iconstv (n := 1) (v := 1) (by decide +kernel) (by decide +kernel) ?_
            refine pz_icmp_ge (off := 7) (t := 312) (by decide +kernel) (by decide) rfl kz_0 kz_1 (fun h50 => by omega) (fun h50 => ?_)
            refine pe_iconstv (n := 1) (v := 1) (by decide +kernel) (by decide +kernel) ?_
            refine pe_goto (off := 4) (t := 313) (by decide +kernel) (by decide) rfl ?_
            refine pe_istore (j := 5) (ls' := [.ref 147, .int x1, .int x2, .int x3, .int v1, .int 1]) (by decide +kernel) (Nat.le_of_ble_eq_true rfl) rfl ?_
            refine pe_iload (j := 5) (by decide +kernel) rfl ?_
            refine pz_if_eq (off := 22) (t := 339) (by decide +kernel) (by decide) rfl kz_1 (fun h51 => by omega) (fun h51 => ?_)
            refine pe_aload_n (j := 0) (by decide +kernel) rfl ?_
            refine pe_get (j := 53) (ci := 12) (n := 27) (by decide +kernel) (by decide +kernel) (md_o hc) rfl ?_
            refine pe_bipushv (n := 10) (v := 10) (by decide +kernel) (by decide +kernel) ?_
            refine pe_iload_n (j := 3) (by decide +kernel) rfl ?_
            refine pz_mul (by decide +kernel) kz_10 rfl (by omega) (by omega) (fun z52 hz52 => ?_)
            refine pe_iload (j := 4) (by decide +kernel) rfl ?_
            refine pz_add (by decide +kernel) hz52 rfl (by omega) (by omega) (fun z53 hz53 => ?_)
            clear hz52
            refine pe_dup2 (by decide +kernel) ⟨rfl, rfl⟩ ?_
            refine pz_iald (by decide +kernel) (md_a162 hc) (mlen_162 hI) hz53 (by omega) (by omega) (fun v54 ev54 => ?_)
            rw [ev54.trans ev8.symm]
            clear ev54 v54
            refine pe_iconstv (n := 1) (v := 1) (by decide +kernel) (by decide +kernel) ?_
            refine pz_sub (by decide +kernel) rfl kz_1 (by omega) (by omega) (fun z55 hz55 => ?_)
            refine mz_st162 (by decide +kernel) hc hI hz53 (by omega) (by omega) (fun A56 eA56 hIA56 => ?_)
            refine pe_goto (off := 19) (t := 355) (by decide +kernel) (by decide) rfl ?_
            refine pe_iload (j := 4) (by decide +kernel) rfl ?_
            refine pe_istore_n (j := 3) (ls' := [.ref 147, .int x1, .int x2, .int v1, .int v1, .int 1]) (by decide +kernel) (Nat.le_of_ble_eq_true rfl) rfl ?_
            refine pe_goto (off := (-116)) (t := 242) (by decide +kernel) (by decide) rfl ?_
            exact ih A56 v1 (.int v1) (.int 1) hIA56 (fun k n162 => (upa_fr eA56 n162).trans ((hF k n162))) (by omega) (PW_step (a := v1.toInt) (i := ((10 * x3.toInt) + v1.toInt)) hpi0 hpk0 hpk2.2 (mlen_162 hI) (by omega) hpi1 (by rw [(show fr (A0 164) (x3.toInt) = v1.toInt from congrArg Int32.toInt ev1.symm)]; omega) (show fr (A0 164) (x3.toInt) = v1.toInt from congrArg Int32.toInt ev1.symm) eA56 (Or.inl ⟨rfl, by rw [(show fr (A 162) (((10 * x3.toInt) + v1.toInt)) = v8.toInt from congrArg Int32.toInt ev8.symm)]; omega, by rw [(show fr (A 162) (((10 * x3.toInt) + v1.toInt)) = v8.toInt from congrArg Int32.toInt ev8.symm)]; omega, by rw [hwv32, hwv48]; omega⟩)) hpn3.2.2.1 (Nat.lt_of_lt_of_le hpn3.2.2.2 (Nat.le_of_lt_succ hm))
          · skip
            clear hz47
            refine pe_iconstv (n := 0) (v := 0) (by decide +kernel) (by decide +kernel) ?_
            refine pe_goto (off := 4) (t := 305) (by decide +kernel) (by decide) rfl ?_
            refine pz_icmp_ge (off := 7) (t := 312) (by decide +kernel) (by decide) rfl kz_0 kz_0 (fun h57 => ?_) (fun h57 => by omega)
            refine pe_iconstv (n := 0) (v := 0) (by decide +kernel) (by decide +kernel) ?_
            refine pe_istore (j := 5) (ls' := [.ref 147, .int x1, .int x2, .int x3, .int v1, .int 0]) (by decide +kernel) (Nat.le_of_ble_eq_true rfl) rfl ?_
            refine pe_iload (j := 5) (by decide +kernel) rfl ?_
            refine pz_if_eq (off := 22) (t := 339) (by decide +kernel) (by decide) rfl kz_0 (fun h58 => ?_) (fun h58 => by omega)
            refine pe_aload_n (j := 0) (by decide +kernel) rfl ?_
            refine pe_get (j := 53) (ci := 12) (n := 27) (by decide +kernel) (by decide +kernel) (md_o hc) rfl ?_
            refine pe_bipushv (n := 10) (v := 10) (by decide +kernel) (by decide +kernel) ?_
            refine pe_iload (j := 4) (by decide +kernel) rfl ?_
            refine pz_mul (by decide +kernel) kz_10 rfl (by omega) (by omega) (fun z59 hz59 => ?_)
            refine pe_iload_n (j := 3) (by decide +kernel) rfl ?_
            refine pz_add (by decide +kernel) hz59 rfl (by omega) (by omega) (fun z60 hz60 => ?_)
            clear hz59
            refine pe_dup2 (by decide +kernel) ⟨rfl, rfl⟩ ?_
            refine pz_iald (by decide +kernel) (md_a162 hc) (mlen_162 hI) hz60 (by omega) (by omega) (fun v61 ev61 => ?_)
            rw [ev61.trans ev45.symm]
            clear ev61 v61
            refine pe_iconstv (n := 1) (v := 1) (by decide +kernel) (by decide +kernel) ?_
            refine pz_add (by decide +kernel) rfl kz_1 (by omega) (by omega) (fun z62 hz62 => ?_)
            refine mz_st162 (by decide +kernel) hc hI hz60 (by omega) (by omega) (fun A63 eA63 hIA63 => ?_)
            refine pe_iload (j := 4) (by decide +kernel) rfl ?_
            refine pe_istore_n (j := 3) (ls' := [.ref 147, .int x1, .int x2, .int v1, .int v1, .int 0]) (by decide +kernel) (Nat.le_of_ble_eq_true rfl) rfl ?_
            refine pe_goto (off := (-116)) (t := 242) (by decide +kernel) (by decide) rfl ?_
            exact ih A63 v1 (.int v1) (.int 0) hIA63 (fun k n162 => (upa_fr eA63 n162).trans ((hF k n162))) (by omega) (PW_step (a := v1.toInt) (i := ((10 * v1.toInt) + x3.toInt)) hpi0 hpk0 hpk2.2 (mlen_162 hI) (by omega) hpi1 (by rw [(show fr (A0 164) (x3.toInt) = v1.toInt from congrArg Int32.toInt ev1.symm)]; omega) (show fr (A0 164) (x3.toInt) = v1.toInt from congrArg Int32.toInt ev1.symm) eA63 (Or.inr ⟨rfl, by rw [(show fr (A 162) (((10 * v1.toInt) + x3.toInt)) = v45.toInt from congrArg Int32.toInt ev45.symm)]; omega, Or.inr (by rw [hwv32, hwv48]; omega)⟩)) hpn3.2.2.1 (Nat.lt_of_lt_of_le hpn3.2.2.2 (Nat.le_of_lt_succ hm))
        · skip
          clear hz31
          refine pe_iconstv (n := (-1)) (v := (-1)) (by decide +kernel) (by decide +kernel) ?_
          refine pe_goto (off := 4) (t := 290) (by decide +kernel) (by decide) rfl ?_
          refine pe_aload_n (j := 0) (by decide +kernel) rfl ?_
          refine pe_iload (j := 4) (by decide +kernel) rfl ?_
          refine pe_iload_n (j := 3) (by decide +kernel) rfl ?_
          refine pi_V (j := 349) (mj := 296) (by decide +kernel) (cll_V (args := [.int x3, .int v1]) (n := 2) (by decide +kernel) rfl rfl (md_o hc) (by decide +kernel) (Nat.le_of_ble_eq_true rfl) (Nat.le_of_ble_eq_true rfl)) ?_
          show pmE pg X pg_tyl pg_cl (d + 1) 296 0 [.ref 147, .int v1, .int x3] [] (md wc f A) _
          refine pe_aload_n (j := 0) (by decide +kernel) rfl ?_
          refine pe_get (j := 50) (ci := 12) (n := 26) (by decide +kernel) (by decide +kernel) (md_o hc) rfl ?_
          refine pe_bipushv (n := 10) (v := 10) (by decide +kernel) (by decide +kernel) ?_
          refine pe_iload_n (j := 1) (by decide +kernel) rfl ?_
          refine pz_mul (by decide +kernel) kz_10 rfl (by omega) (by omega) (fun z64 hz64 => ?_)
          refine pe_iload_n (j := 2) (by decide +kernel) rfl ?_
          refine pz_add (by decide +kernel) hz64 rfl (by omega) (by omega) (fun z65 hz65 => ?_)
          clear hz64
          refine pz_iald (by decide +kernel) (md_a161 hc) (mlen_161 hI) hz65 (by omega) (by omega) (fun v66 ev66 => ?_)
          rw [show A 161 = A0 161 from (hF 161 (by decide))] at ev66
          clear hz65
          have hb67 := (BN_w hpk1) (((10 * v1.toInt) + x3.toInt)) (by omega) (by omega)
          rw [(show fr (A0 161) (((10 * v1.toInt) + x3.toInt)) = v66.toInt from congrArg Int32.toInt ev66.symm)] at hb67
          refine pe_aload_n (j := 0) (by decide +kernel) rfl ?_
          refine pe_get (j := 47) (ci := 12) (n := 25) (by decide +kernel) (by decide +kernel) (md_o hc) rfl ?_
          refine pe_bipushv (n := 10) (v := 10) (by decide +kernel) (by decide +kernel) ?_
          refine pe_iload_n (j := 1) (by decide +kernel) rfl ?_
          refine pz_mul (by decide +kernel) kz_10 rfl (by omega) (by omega) (fun z68 hz68 => ?_)
          refine pe_iload_n (j := 2) (by decide +kernel) rfl ?_
          refine pz_add (by decide +kernel) hz68 rfl (by omega) (by omega) (fun z69 hz69 => ?_)
          clear hz68
          refine pz_iald (by decide +kernel) (md_a160 hc) (mlen_160 hI) hz69 (by omega) (by omega) (fun v70 ev70 => ?_)
          rw [show A 160 = A0 160 from (hF 160 (by decide))] at ev70
          clear hz69
          have hb71 := (BN_l hpk1) (((10 * v1.toInt) + x3.toInt)) (by omega) (by omega)
          rw [(show fr (A0 160) (((10 * v1.toInt) + x3.toInt)) = v70.toInt from congrArg Int32.toInt ev70.symm)] at hb71
          refine pz_sub (by decide +kernel) rfl rfl (by omega) (by omega) (fun z72 hz72 => ?_)
          refine pe_aload_n (j := 0) (by decide +kernel) rfl ?_
          refine pe_get (j := 53) (ci := 12) (n := 27) (by decide +kernel) (by decide +kernel) (md_o hc) rfl ?_
          refine pe_bipushv (n := 10) (v := 10) (by decide +kernel) (by decide +kernel) ?_
          refine pe_iload_n (j := 1) (by decide +kernel) rfl ?_
          refine pz_mul (by decide +kernel) kz_10 rfl (by omega) (by omega) (fun z73 hz73 => ?_)
          refine pe_iload_n (j := 2) (by decide +kernel) rfl ?_
          refine pz_add (by decide +kernel) hz73 rfl (by omega) (by omega) (fun z74 hz74 => ?_)
          clear hz73
          refine pz_iald (by decide +kernel) (md_a162 hc) (mlen_162 hI) hz74 (by omega) (by omega) (fun v75 ev75 => ?_)
          clear hz74
          have hb76 := (PW_b hpi0 hpk1 (by decide)) (((10 * v1.toInt) + x3.toInt)) (by omega) (by omega)
          rw [(show fr (A 162) (((10 * v1.toInt) + x3.toInt)) = v75.toInt from congrArg Int32.toInt ev75.symm)] at hb76
          refine pz_sub (by decide +kernel) hz72 rfl (by omega) (by omega) (fun z77 hz77 => ?_)
          clear hz72
          have hwv78 : wv A v1.toInt x3.toInt = v66.toInt - v70.toInt - v75.toInt := by show fr (A 161) _ - fr (A 160) _ - fr (A 162) _ = _; rw [show A 161 = A0 161 from (hF 161 (by decide)), show A 160 = A0 160 from (hF 160 (by decide)), (show fr (A0 161) (((10 * v1.toInt) + x3.toInt)) = v66.toInt from congrArg Int32.toInt ev66.symm), (show fr (A0 160) (((10 * v1.toInt) + x3.toInt)) = v70.toInt from congrArg Int32.toInt ev70.symm), (show fr (A 162) (((10 * v1.toInt) + x3.toInt)) = v75.toInt from congrArg Int32.toInt ev75.symm)]
          refine pe_iret (by decide +kernel) rfl rfl ⟨rfl, rfl, ?_⟩
          show pmE pg X pg_tyl pg_cl (d + 2) 294 297 [.ref 147, .int x1, .int x2, .int x3, .int v1, u5] [.int z77, .int (-1)] (md wc f A) _
          refine pz_if_le (off := 7) (t := 304) (by decide +kernel) (by decide) rfl hz77 (fun h79 => ?_) (fun h79 => ?_)
          · skip
            clear hz77
            refine pe_iconstv (n := 1) (v := 1) (by decide +kernel) (by decide +kernel) ?_
            refine pz_icmp_ge (off := 7) (t := 312) (by decide +kernel) (by decide) rfl kz_m1 kz_1 (fun h80 => by omega) (fun h80 => ?_)
            refine pe_iconstv (n := 1) (v := 1) (by decide +kernel) (by decide +kernel) ?_
            refine pe_goto (off := 4) (t := 313) (by decide +kernel) (by decide) rfl ?_
            refine pe_istore (j := 5) (ls' := [.ref 147, .int x1, .int x2, .int x3, .int v1, .int 1]) (by decide +kernel) (Nat.le_of_ble_eq_true rfl) rfl ?_
            refine pe_iload (j := 5) (by decide +kernel) rfl ?_
            refine pz_if_eq (off := 22) (t := 339) (by decide +kernel) (by decide) rfl kz_1 (fun h81 => by omega) (fun h81 => ?_)
            refine pe_aload_n (j := 0) (by decide +kernel) rfl ?_
            refine pe_get (j := 53) (ci := 12) (n := 27) (by decide +kernel) (by decide +kernel) (md_o hc) rfl ?_
            refine pe_bipushv (n := 10) (v := 10) (by decide +kernel) (by decide +kernel) ?_
            refine pe_iload_n (j := 3) (by decide +kernel) rfl ?_
            refine pz_mul (by decide +kernel) kz_10 rfl (by omega) (by omega) (fun z82 hz82 => ?_)
            refine pe_iload (j := 4) (by decide +kernel) rfl ?_
            refine pz_add (by decide +kernel) hz82 rfl (by omega) (by omega) (fun z83 hz83 => ?_)
            clear hz82
            refine pe_dup2 (by decide +kernel) ⟨rfl, rfl⟩ ?_
            refine pz_iald (by decide +kernel) (md_a162 hc) (mlen_162 hI) hz83 (by omega) (by omega) (fun v84 ev84 => ?_)
            rw [ev84.trans ev8.symm]
            clear ev84 v84
            refine pe_iconstv (n := 1) (v := 1) (by decide +kernel) (by decide +kernel) ?_
            refine pz_sub (by decide +kernel) rfl kz_1 (by omega) (by omega) (fun z85 hz85 => ?_)
            refine mz_st162 (by decide +kernel) hc hI hz83 (by omega) (by omega) (fun A86 eA86 hIA86 => ?_)
            refine pe_goto (off := 19) (t := 355) (by decide +kernel) (by decide) rfl ?_
            refine pe_iload (j := 4) (by decide +kernel) rfl ?_
            refine pe_istore_n (j := 3) (ls' := [.ref 147, .int x1, .int x2, .int v1, .int v1, .int 1]) (by decide +kernel) (Nat.le_of_ble_eq_true rfl) rfl ?_
            refine pe_goto (off := (-116)) (t := 242) (by decide +kernel) (by decide) rfl ?_
            exact ih A86 v1 (.int v1) (.int 1) hIA86 (fun k n162 => (upa_fr eA86 n162).trans ((hF k n162))) (by omega) (PW_step (a := v1.toInt) (i := ((10 * x3.toInt) + v1.toInt)) hpi0 hpk0 hpk2.2 (mlen_162 hI) (by omega) hpi1 (by rw [(show fr (A0 164) (x3.toInt) = v1.toInt from congrArg Int32.toInt ev1.symm)]; omega) (show fr (A0 164) (x3.toInt) = v1.toInt from congrArg Int32.toInt ev1.symm) eA86 (Or.inl ⟨rfl, by rw [(show fr (A 162) (((10 * x3.toInt) + v1.toInt)) = v8.toInt from congrArg Int32.toInt ev8.symm)]; omega, by rw [(show fr (A 162) (((10 * x3.toInt) + v1.toInt)) = v8.toInt from congrArg Int32.toInt ev8.symm)]; omega, by rw [hwv32, hwv78]; omega⟩)) hpn3.2.2.1 (Nat.lt_of_lt_of_le hpn3.2.2.2 (Nat.le_of_lt_succ hm))
          · skip
            clear hz77
            refine pe_iconstv (n := 0) (v := 0) (by decide +kernel) (by decide +kernel) ?_
            refine pe_goto (off := 4) (t := 305) (by decide +kernel) (by decide) rfl ?_
            refine pz_icmp_ge (off := 7) (t := 312) (by decide +kernel) (by decide) rfl kz_m1 kz_0 (fun h87 => by omega) (fun h87 => ?_)
            refine pe_iconstv (n := 1) (v := 1) (by decide +kernel) (by decide +kernel) ?_
            refine pe_goto (off := 4) (t := 313) (by decide +kernel) (by decide) rfl ?_
            refine pe_istore (j := 5) (ls' := [.ref 147, .int x1, .int x2, .int x3, .int v1, .int 1]) (by decide +kernel) (Nat.le_of_ble_eq_true rfl) rfl ?_
            refine pe_iload (j := 5) (by decide +kernel) rfl ?_
            refine pz_if_eq (off := 22) (t := 339) (by decide +kernel) (by decide) rfl kz_1 (fun h88 => by omega) (fun h88 => ?_)
            refine pe_aload_n (j := 0) (by decide +kernel) rfl ?_
            refine pe_get (j := 53) (ci := 12) (n := 27) (by decide +kernel) (by decide +kernel) (md_o hc) rfl ?_
            refine pe_bipushv (n := 10) (v := 10) (by decide +kernel) (by decide +kernel) ?_
            refine pe_iload_n (j := 3) (by decide +kernel) rfl ?_
            refine pz_mul (by decide +kernel) kz_10 rfl (by omega) (by omega) (fun z89 hz89 => ?_)
            refine pe_iload (j := 4) (by decide +kernel) rfl ?_
            refine pz_add (by decide +kernel) hz89 rfl (by omega) (by omega) (fun z90 hz90 => ?_)
            clear hz89
            refine pe_dup2 (by decide +kernel) ⟨rfl, rfl⟩ ?_
            refine pz_iald (by decide +kernel) (md_a162 hc) (mlen_162 hI) hz90 (by omega) (by omega) (fun v91 ev91 => ?_)
            rw [ev91.trans ev8.symm]
            clear ev91 v91
            refine pe_iconstv (n := 1) (v := 1) (by decide +kernel) (by decide +kernel) ?_
            refine pz_sub (by decide +kernel) rfl kz_1 (by omega) (by omega) (fun z92 hz92 => ?_)
            refine mz_st162 (by decide +kernel) hc hI hz90 (by omega) (by omega) (fun A93 eA93 hIA93 => ?_)
            refine pe_goto (off := 19) (t := 355) (by decide +kernel) (by decide) rfl ?_
            refine pe_iload (j := 4) (by decide +kernel) rfl ?_
            refine pe_istore_n (j := 3) (ls' := [.ref 147, .int x1, .int x2, .int v1, .int v1, .int 1]) (by decide +kernel) (Nat.le_of_ble_eq_true rfl) rfl ?_
            refine pe_goto (off := (-116)) (t := 242) (by decide +kernel) (by decide) rfl ?_
            exact ih A93 v1 (.int v1) (.int 1) hIA93 (fun k n162 => (upa_fr eA93 n162).trans ((hF k n162))) (by omega) (PW_step (a := v1.toInt) (i := ((10 * x3.toInt) + v1.toInt)) hpi0 hpk0 hpk2.2 (mlen_162 hI) (by omega) hpi1 (by rw [(show fr (A0 164) (x3.toInt) = v1.toInt from congrArg Int32.toInt ev1.symm)]; omega) (show fr (A0 164) (x3.toInt) = v1.toInt from congrArg Int32.toInt ev1.symm) eA93 (Or.inl ⟨rfl, by rw [(show fr (A 162) (((10 * x3.toInt) + v1.toInt)) = v8.toInt from congrArg Int32.toInt ev8.symm)]; omega, by rw [(show fr (A 162) (((10 * x3.toInt) + v1.toInt)) = v8.toInt from congrArg Int32.toInt ev8.symm)]; omega, by rw [hwv32, hwv78]; omega⟩)) hpn3.2.2.1 (Nat.lt_of_lt_of_le hpn3.2.2.2 (Nat.le_of_lt_succ hm))
set_option maxRecDepth 100000 in
set_option maxHeartbeats 8000000 in
theorem NL_294_184 {X : pm_X} {d : Nat} {wc : pm_W} {Q : pm_R → Prop} {f : Nat → Int32} {A : Nat → List Int32} {x1 : Int32} {u4 : Value} (hc : wc.length = 147) (hI : MI f A) (gx1 : (610 ≤ x1.toInt ∧ x1.toInt ≤ 742 ∧ (x1.toInt - 610) % 132 = 0)) (k_230_0 : ∀ (y2 : Int32) (y3 : Int32), ((-1) ≤ y2.toInt ∧ y2.toInt ≤ 8) → (0 ≤ y3.toInt ∧ y3.toInt ≤ 9) → TO A (fr (A 148) x1.toInt) y2.toInt y3.toInt → (fr (A 148) x1.toInt) ≤ y3.toInt → pmE pg X pg_tyl pg_cl (d + 2) 294 230 [.ref 147, .int x1, .int y2, .int y3, u4, pm_dead] [] (md wc f A) Q) : ∀ (m : Nat) (x2 : Int32) (x3 : Int32), ((-1) ≤ x2.toInt ∧ x2.toInt ≤ 8) → (0 ≤ x3.toInt ∧ x3.toInt ≤ 9) → TO A (fr (A 148) x1.toInt) x2.toInt x3.toInt → 9 - x3.toInt < (m : Int) → pmE pg X pg_tyl pg_cl (d + 2) 294 184 [.ref 147, .int x1, .int x2, .int x3, u4, pm_dead] [] (md wc f A) Q := by
  intro m
  induction m with
  | zero =>
    intro x2 x3 gx2 gx3 hpi0 hm
    exfalso
    have l0 := zi_lo x3
    have u0 := zi_hi x3
    omega
  | succ m ih =>
    intro x2 x3 gx2 gx3 hpi0 hm
    refine pe_iload_n (j := 3) (by decide +kernel) rfl ?_
    refine pe_aload_n (j := 0) (by decide +kernel) rfl ?_
    refine pe_get (j := 7) (ci := 12) (n := 0) (by decide +kernel) (by decide +kernel) (md_o hc) rfl ?_
    refine pe_iload_n (j := 1) (by decide +kernel) rfl ?_
    refine pz_iald (by decide +kernel) (md_a148 hc) (mlen_148 hI) rfl (by omega) (by omega) (fun v1 ev1 => ?_)
    have rv1 : 0 ≤ v1.toInt ∧ v1.toInt ≤ 9 := MT_people (mt_148 hI ev1 (by omega)) (by omega)
    refine pz_icmp_ge (off := 39) (t := 230) (by decide +kernel) (by decide) rfl rfl rfl (fun h2 => ?_) (fun h2 => ?_)
    · skip
      exact k_230_0 x2 x3 (by omega) (by omega) hpi0 (by rw [(show fr (A 148) (x1.toInt) = v1.toInt from congrArg Int32.toInt ev1.symm)]; omega)
    · skip
      refine pe_aload_n (j := 0) (by decide +kernel) rfl ?_
      refine pe_get (j := 56) (ci := 12) (n := 28) (by decide +kernel) (by decide +kernel) (md_o hc) rfl ?_
      refine pe_iload_n (j := 3) (by decide +kernel) rfl ?_
      refine pz_iald (by decide +kernel) (md_a163 hc) (mlen_163 hI) rfl (by omega) (by omega) (fun v3 ev3 => ?_)
      have lw5 := zi_lo v3
      have uw5 := zi_hi v3
      refine pz_if_ge (off := 24) (t := 224) (by decide +kernel) (by decide) rfl rfl (fun h4 => ?_) (fun h4 => ?_)
      · skip
        refine pz_iinc (j := 3) (n := 1) (by decide +kernel) rfl rfl (by decide +kernel) (by omega) (by omega) (fun z6 hz6 => ?_)
        show pmE pg X pg_tyl pg_cl (d + 2) 294 227 [.ref 147, .int x1, .int x2, .int z6, u4, pm_dead] [] (md wc f A) _
        refine pe_goto (off := (-43)) (t := 184) (by decide +kernel) (by decide) rfl ?_
        exact ih x2 z6 (by omega) (by omega) (by rw [hz6]; exact TO_keep hpi0 (fun h => by rw [(show fr (A 163) (x3.toInt) = v3.toInt from congrArg Int32.toInt ev3.symm)]; omega)) (by omega)
      · skip
        refine pe_iload_n (j := 2) (by decide +kernel) rfl ?_
        refine pz_if_lt (off := 18) (t := 222) (by decide +kernel) (by decide) rfl rfl (fun h7 => ?_) (fun h7 => ?_)
        · skip
          refine pe_iload_n (j := 3) (by decide +kernel) rfl ?_
          refine pe_istore_n (j := 2) (ls' := [.ref 147, .int x1, .int x3, .int x3, u4, pm_dead]) (by decide +kernel) (Nat.le_of_ble_eq_true rfl) rfl ?_
          refine pz_iinc (j := 3) (n := 1) (by decide +kernel) rfl rfl (by decide +kernel) (by omega) (by omega) (fun z8 hz8 => ?_)
          show pmE pg X pg_tyl pg_cl (d + 2) 294 227 [.ref 147, .int x1, .int x3, .int z8, u4, pm_dead] [] (md wc f A) _
          refine pe_goto (off := (-43)) (t := 184) (by decide +kernel) (by decide) rfl ?_
          exact ih x3 z8 (by omega) (by omega) (TO_new (by omega) (by rw [(show fr (A 148) (x1.toInt) = v1.toInt from congrArg Int32.toInt ev1.symm)]; omega) (by rw [(show fr (A 163) (x3.toInt) = v3.toInt from congrArg Int32.toInt ev3.symm)]; omega)) (by omega)
        · skip
          refine pe_aload_n (j := 0) (by decide +kernel) rfl ?_
          refine pe_get (j := 62) (ci := 12) (n := 30) (by decide +kernel) (by decide +kernel) (md_o hc) rfl ?_
          refine pe_iload_n (j := 3) (by decide +kernel) rfl ?_
          refine pz_iald (by decide +kernel) (md_a165 hc) (mlen_165 hI) rfl (by omega) (by omega) (fun v9 ev9 => ?_)
          refine pe_aload_n (j := 0) (by decide +kernel) rfl ?_
          refine pe_get (j := 62) (ci := 12) (n := 30) (by decide +kernel) (by decide +kernel) (md_o hc) rfl ?_
          refine pe_iload_n (j := 2) (by decide +kernel) rfl ?_
          refine pz_iald (by decide +kernel) (md_a165 hc) (mlen_165 hI) rfl (by omega) (by omega) (fun v10 ev10 => ?_)
          have lw12 := zi_lo v9
          have uw12 := zi_hi v9
          have lw13 := zi_lo v10
          have uw13 := zi_hi v10
          refine pz_icmp_ge (off := 5) (t := 224) (by decide +kernel) (by decide) rfl rfl rfl (fun h11 => ?_) (fun h11 => ?_)
          · skip
            refine pz_iinc (j := 3) (n := 1) (by decide +kernel) rfl rfl (by decide +kernel) (by omega) (by omega) (fun z14 hz14 => ?_)
            show pmE pg X pg_tyl pg_cl (d + 2) 294 227 [.ref 147, .int x1, .int x2, .int z14, u4, pm_dead] [] (md wc f A) _
            refine pe_goto (off := (-43)) (t := 184) (by decide +kernel) (by decide) rfl ?_
            exact ih x2 z14 (by omega) (by omega) (by rw [hz14]; exact TO_keep hpi0 (fun h => by rw [(show fr (A 163) (x3.toInt) = v3.toInt from congrArg Int32.toInt ev3.symm)]; omega)) (by omega)
          · skip
            refine pe_iload_n (j := 3) (by decide +kernel) rfl ?_
            refine pe_istore_n (j := 2) (ls' := [.ref 147, .int x1, .int x3, .int x3, u4, pm_dead]) (by decide +kernel) (Nat.le_of_ble_eq_true rfl) rfl ?_
            refine pz_iinc (j := 3) (n := 1) (by decide +kernel) rfl rfl (by decide +kernel) (by omega) (by omega) (fun z15 hz15 => ?_)
            show pmE pg X pg_tyl pg_cl (d + 2) 294 227 [.ref 147, .int x1, .int x3, .int z15, u4, pm_dead] [] (md wc f A) _
            refine pe_goto (off := (-43)) (t := 184) (by decide +kernel) (by decide) rfl ?_
            exact ih x3 z15 (by omega) (by omega) (TO_new (by omega) (by rw [(show fr (A 148) (x1.toInt) = v1.toInt from congrArg Int32.toInt ev1.symm)]; omega) (by rw [(show fr (A 163) (x3.toInt) = v3.toInt from congrArg Int32.toInt ev3.symm)]; omega)) (by omega)
set_option maxRecDepth 100000 in
set_option maxHeartbeats 8000000 in
theorem NL_294_78 {X : pm_X} {d : Nat} {wc : pm_W} {Q : pm_R → Prop} {f : Nat → Int32} {A0 : Nat → List Int32} {x1 x2 x3 : Int32} (hc : wc.length = 147) (gx1 : (610 ≤ x1.toInt ∧ x1.toInt ≤ 742 ∧ (x1.toInt - 610) % 132 = 0)) (gx2 : (0 ≤ x2.toInt ∧ x2.toInt ≤ 9)) (gx3 : (0 ≤ x3.toInt ∧ x3.toInt ≤ 8)) (hpk0 : 0 ≤ (fr (A0 148) x1.toInt) ∧ (fr (A0 148) x1.toInt) ≤ 9) (hpk1 : BN A0 20001) (hpk2 : x3.toInt < (fr (A0 148) x1.toInt)) (k_168_0 : ∀ (A' : Nat → List Int32) (y4 : Int32), MI f A' → (∀ k : Nat, k ≠ 164 → k ≠ 165 → A' k = A0 k) → (0 ≤ y4.toInt ∧ y4.toInt ≤ 9) → BF A' (fr (A0 148) x1.toInt) (x2.toInt + 1) x3.toInt y4.toInt → (fr (A0 148) x1.toInt) ≤ y4.toInt → pmE pg X pg_tyl pg_cl (d + 2) 294 168 [.ref 147, .int x1, .int x2, .int x3, .int y4, pm_dead] [] (md wc f A') Q) : ∀ (m : Nat) (A : Nat → List Int32) (x4 : Int32), MI f A → (∀ k : Nat, k ≠ 164 → k ≠ 165 → A k = A0 k) → (0 ≤ x4.toInt ∧ x4.toInt ≤ 9) → BF A (fr (A0 148) x1.toInt) (x2.toInt + 1) x3.toInt x4.toInt → 9 - x4.toInt < (m : Int) → pmE pg X pg_tyl pg_cl (d + 2) 294 78 [.ref 147, .int x1, .int x2, .int x3, .int x4, pm_dead] [] (md wc f A) Q := by
  intro m
  induction m with
  | zero =>
    intro A x4 hI hF gx4 hpi0 hm
    exfalso
    have l0 := zi_lo x4
    have u0 := zi_hi x4
    omega
  | succ m ih =>
    intro A x4 hI hF gx4 hpi0 hm
    refine pe_iload (j := 4) (by decide +kernel) rfl ?_
    refine pe_aload_n (j := 0) (by decide +kernel) rfl ?_
    refine pe_get (j := 7) (ci := 12) (n := 0) (by decide +kernel) (by decide +kernel) (md_o hc) rfl ?_
    refine pe_iload_n (j := 1) (by decide +kernel) rfl ?_
    refine pz_iald (by decide +kernel) (md_a148 hc) (mlen_148 hI) rfl (by omega) (by omega) (fun v1 ev1 => ?_)
    have rv1 : 0 ≤ v1.toInt ∧ v1.toInt ≤ 9 := MT_people (mt_148 hI ev1 (by omega)) (by omega)
    rw [show A 148 = A0 148 from (hF 148 (by decide) (by decide))] at ev1
    refine pz_icmp_ge (off := 82) (t := 168) (by decide +kernel) (by decide) rfl rfl rfl (fun h2 => ?_) (fun h2 => ?_)
    · skip
      exact k_168_0 A x4 hI (fun k n164 n165 => (hF k n164 n165)) (by omega) hpi0 (by rw [(show fr (A0 148) (x1.toInt) = v1.toInt from congrArg Int32.toInt ev1.symm)]; omega)
    · skip
      have hb43 : x4.toInt < (fr (A0 148) x1.toInt) := by rw [(show fr (A0 148) (x1.toInt) = v1.toInt from congrArg Int32.toInt ev1.symm)]; omega
      have hpp4 := hpk0
      have hpp5 := hpk2
      refine pe_iload_n (j := 3) (by decide +kernel) rfl ?_
      refine pe_iload (j := 4) (by decide +kernel) rfl ?_
      refine pz_icmp_eq (off := 70) (t := 162) (by decide +kernel) (by decide) rfl rfl rfl (fun h6 => ?_) (fun h6 => ?_)
      · skip
        refine pz_iinc (j := 4) (n := 1) (by decide +kernel) rfl rfl (by decide +kernel) (by omega) (by omega) (fun z7 hz7 => ?_)
        show pmE pg X pg_tyl pg_cl (d + 2) 294 165 [.ref 147, .int x1, .int x2, .int x3, .int z7, pm_dead] [] (md wc f A) _
        refine pe_goto (off := (-87)) (t := 78) (by decide +kernel) (by decide) rfl ?_
        exact ih A z7 hI (fun k n164 n165 => (hF k n164 n165)) (by omega) (by rw [hz7]; exact BF_skip hpi0 (fun hne _ => absurd hne (by omega))) (by omega)
      · skip
        refine pe_aload_n (j := 0) (by decide +kernel) rfl ?_
        refine pe_get (j := 62) (ci := 12) (n := 30) (by decide +kernel) (by decide +kernel) (md_o hc) rfl ?_
        refine pe_iload_n (j := 3) (by decide +kernel) rfl ?_
        refine pz_iald (by decide +kernel) (md_a165 hc) (mlen_165 hI) rfl (by omega) (by omega) (fun v8 ev8 => ?_)
        have hpb9 := BF_bnd hpi0 (by omega) (by omega) (by omega) (by omega) (by omega) (by omega) (x3.toInt) (by omega) (by omega)
        rw [(show fr (A 165) (x3.toInt) = v8.toInt from congrArg Int32.toInt ev8.symm)] at hpb9
        refine pe_ldc (j := 243) (v := 1000000) (by decide +kernel) (by decide +kernel) ?_
        refine pz_icmp_eq (off := 59) (t := 162) (by decide +kernel) (by decide) rfl rfl kz_1000000 (fun h10 => ?_) (fun h10 => ?_)
        · skip
          refine pz_iinc (j := 4) (n := 1) (by decide +kernel) rfl rfl (by decide +kernel) (by omega) (by omega) (fun z11 hz11 => ?_)
          show pmE pg X pg_tyl pg_cl (d + 2) 294 165 [.ref 147, .int x1, .int x2, .int x3, .int z11, pm_dead] [] (md wc f A) _
          refine pe_goto (off := (-87)) (t := 78) (by decide +kernel) (by decide) rfl ?_
          exact ih A z11 hI (fun k n164 n165 => (hF k n164 n165)) (by omega) (by rw [hz11]; exact BF_skip hpi0 (fun _ hm => absurd hm (by rw [(show fr (A 165) (x3.toInt) = v8.toInt from congrArg Int32.toInt ev8.symm)]; omega))) (by omega)
        · skip
          refine pe_aload_n (j := 0) (by decide +kernel) rfl ?_
          refine pe_get (j := 62) (ci := 12) (n := 30) (by decide +kernel) (by decide +kernel) (md_o hc) rfl ?_
          refine pe_iload_n (j := 3) (by decide +kernel) rfl ?_
          refine pz_iald (by decide +kernel) (md_a165 hc) (mlen_165 hI) rfl (by omega) (by omega) (fun v12 ev12 => ?_)
          rw [ev12.trans ev8.symm]
          clear ev12 v12
          refine pe_aload_n (j := 0) (by decide +kernel) rfl ?_
          refine pe_iload_n (j := 3) (by decide +kernel) rfl ?_
          refine pe_iload (j := 4) (by decide +kernel) rfl ?_
          refine pz_callV (j := 352) (mj := 295) (by decide +kernel) (cll_V (args := [.int x4, .int x3]) (n := 2) (by decide +kernel) rfl rfl (md_o hc) (by decide +kernel) (Nat.le_of_ble_eq_true rfl) (Nat.le_of_ble_eq_true rfl)) (NM_295 hc hI (by omega) (by omega) (BN_fr hpk1 (hF 160 (by decide) (by decide)) (hF 161 (by decide) (by decide)) (hF 162 (by decide) (by decide)))) (fun q13a q13b q13c q13d hqq13 => ?_)
          obtain ⟨rq13, eq13, kq13⟩ := hqq13
          cases eq13
          refine ⟨rfl, rfl, ?_⟩
          obtain ⟨kfq13, kq13⟩ := kq13
          obtain ⟨hp14, kq13⟩ := kq13
          show pmE pg X pg_tyl pg_cl (d + 2) 294 119 [.ref 147, .int x1, .int x2, .int x3, .int x4, pm_dead] [.int rq13, .int v8] (md wc f A) _
          refine pz_add (by decide +kernel) rfl rfl (by omega) (by omega) (fun z15 hz15 => ?_)
          refine pe_aload_n (j := 0) (by decide +kernel) rfl ?_
          refine pe_get (j := 62) (ci := 12) (n := 30) (by decide +kernel) (by decide +kernel) (md_o hc) rfl ?_
          refine pe_iload (j := 4) (by decide +kernel) rfl ?_
          refine pz_iald (by decide +kernel) (md_a165 hc) (mlen_165 hI) rfl (by omega) (by omega) (fun v16 ev16 => ?_)
          have hpb17 := BF_bnd hpi0 (by omega) (by omega) (by omega) (by omega) (by omega) (by omega) (x4.toInt) (by omega) (by omega)
          rw [(show fr (A 165) (x4.toInt) = v16.toInt from congrArg Int32.toInt ev16.symm)] at hpb17
          refine pz_icmp_lt (off := 6) (t := 133) (by decide +kernel) (by decide) rfl hz15 rfl (fun h18 => ?_) (fun h18 => ?_)
          · skip
            clear hz15
            refine pe_aload_n (j := 0) (by decide +kernel) rfl ?_
            refine pe_get (j := 62) (ci := 12) (n := 30) (by decide +kernel) (by decide +kernel) (md_o hc) rfl ?_
            refine pe_iload (j := 4) (by decide +kernel) rfl ?_
            refine pe_aload_n (j := 0) (by decide +kernel) rfl ?_
            refine pe_get (j := 62) (ci := 12) (n := 30) (by decide +kernel) (by decide +kernel) (md_o hc) rfl ?_
            refine pe_iload_n (j := 3) (by decide +kernel) rfl ?_
            refine pz_iald (by decide +kernel) (md_a165 hc) (mlen_165 hI) rfl (by omega) (by omega) (fun v19 ev19 => ?_)
            rw [ev19.trans ev8.symm]
            clear ev19 v19
            refine pe_aload_n (j := 0) (by decide +kernel) rfl ?_
            refine pe_iload_n (j := 3) (by decide +kernel) rfl ?_
            refine pe_iload (j := 4) (by decide +kernel) rfl ?_
            refine pz_callV (j := 352) (mj := 295) (by decide +kernel) (cll_V (args := [.int x4, .int x3]) (n := 2) (by decide +kernel) rfl rfl (md_o hc) (by decide +kernel) (Nat.le_of_ble_eq_true rfl) (Nat.le_of_ble_eq_true rfl)) (NM_295 hc hI (by omega) (by omega) (BN_fr hpk1 (hF 160 (by decide) (by decide)) (hF 161 (by decide) (by decide)) (hF 162 (by decide) (by decide)))) (fun q20a q20b q20c q20d hqq20 => ?_)
            obtain ⟨rq20, eq20, kq20⟩ := hqq20
            cases eq20
            refine ⟨rfl, rfl, ?_⟩
            obtain ⟨kfq20, kq20⟩ := kq20
            obtain ⟨hp21, kq20⟩ := kq20
            show pmE pg X pg_tyl pg_cl (d + 2) 294 152 [.ref 147, .int x1, .int x2, .int x3, .int x4, pm_dead] [.int rq20, .int v8, .int x4, .ref 165] (md wc f A) _
            refine pz_add (by decide +kernel) rfl rfl (by omega) (by omega) (fun z22 hz22 => ?_)
            refine mz_st165 (by decide +kernel) hc hI rfl (by omega) (by omega) (fun A23 eA23 hIA23 => ?_)
            refine pe_aload_n (j := 0) (by decide +kernel) rfl ?_
            refine pe_get (j := 59) (ci := 12) (n := 29) (by decide +kernel) (by decide +kernel) (md_o hc) rfl ?_
            refine pe_iload (j := 4) (by decide +kernel) rfl ?_
            refine pe_iload_n (j := 3) (by decide +kernel) rfl ?_
            refine mz_st164 (by decide +kernel) hc hIA23 rfl (by omega) (by omega) (by simp only [MP_from0]; omega) (fun A24 eA24 hIA24 => ?_)
            refine pz_iinc (j := 4) (n := 1) (by decide +kernel) rfl rfl (by decide +kernel) (by omega) (by omega) (fun z25 hz25 => ?_)
            show pmE pg X pg_tyl pg_cl (d + 2) 294 165 [.ref 147, .int x1, .int x2, .int x3, .int z25, pm_dead] [] (md wc f A24) _
            refine pe_goto (off := (-87)) (t := 78) (by decide +kernel) (by decide) rfl ?_
            exact ih A24 z25 hIA24 (fun k n164 n165 => (upa_fr eA24 n164).trans ((upa_fr eA23 n165).trans ((hF k n164 n165)))) (by omega) (by rw [hz25]; exact BF_relax hpi0 (by omega) (by omega) hpk0.2 (by omega) hpk2 (by omega) hb43 (by omega) (mlen_164 hI) (mlen_165 hI) (by rw [(show fr (A 165) (x3.toInt) = v8.toInt from congrArg Int32.toInt ev8.symm)]; omega) (by rw [(show fr (A 165) (x3.toInt) = v8.toInt from congrArg Int32.toInt ev8.symm), (show fr (A 165) (x4.toInt) = v16.toInt from congrArg Int32.toInt ev16.symm), ← hp14]; omega) (by rw [(show fr (A 165) (x3.toInt) = v8.toInt from congrArg Int32.toInt ev8.symm), ← hp21]; omega) rfl eA23 eA24) (by omega)
          · skip
            clear hz15
            refine pe_goto (off := 32) (t := 162) (by decide +kernel) (by decide) rfl ?_
            refine pz_iinc (j := 4) (n := 1) (by decide +kernel) rfl rfl (by decide +kernel) (by omega) (by omega) (fun z26 hz26 => ?_)
            show pmE pg X pg_tyl pg_cl (d + 2) 294 165 [.ref 147, .int x1, .int x2, .int x3, .int z26, pm_dead] [] (md wc f A) _
            refine pe_goto (off := (-87)) (t := 78) (by decide +kernel) (by decide) rfl ?_
            exact ih A z26 hI (fun k n164 n165 => (hF k n164 n165)) (by omega) (by rw [hz26]; exact BF_skip hpi0 (fun _ _ => by rw [(show fr (A 165) (x3.toInt) = v8.toInt from congrArg Int32.toInt ev8.symm), (show fr (A 165) (x4.toInt) = v16.toInt from congrArg Int32.toInt ev16.symm), ← hp14]; omega)) (by omega)
set_option maxRecDepth 100000 in
set_option maxHeartbeats 8000000 in
theorem NL_294_65 {X : pm_X} {d : Nat} {wc : pm_W} {Q : pm_R → Prop} {f : Nat → Int32} {A0 : Nat → List Int32} {x1 x2 : Int32} (hc : wc.length = 147) (gx1 : (610 ≤ x1.toInt ∧ x1.toInt ≤ 742 ∧ (x1.toInt - 610) % 132 = 0)) (gx2 : (0 ≤ x2.toInt ∧ x2.toInt ≤ 9)) (hpk0 : 0 ≤ (fr (A0 148) x1.toInt) ∧ (fr (A0 148) x1.toInt) ≤ 9) (hpk1 : BN A0 20001) (k_174_0 : ∀ (A' : Nat → List Int32) (y3 : Int32) (v4 : Value), MI f A' → (∀ k : Nat, k ≠ 164 → k ≠ 165 → A' k = A0 k) → (0 ≤ y3.toInt ∧ y3.toInt ≤ 9) → BF A' (fr (A0 148) x1.toInt) (x2.toInt + 1) y3.toInt 0 → (fr (A0 148) x1.toInt) ≤ y3.toInt → pmE pg X pg_tyl pg_cl (d + 2) 294 174 [.ref 147, .int x1, .int x2, .int y3, v4, pm_dead] [] (md wc f A') Q) : ∀ (m : Nat) (A : Nat → List Int32) (x3 : Int32) (u4 : Value), MI f A → (∀ k : Nat, k ≠ 164 → k ≠ 165 → A k = A0 k) → (0 ≤ x3.toInt ∧ x3.toInt ≤ 9) → BF A (fr (A0 148) x1.toInt) (x2.toInt + 1) x3.toInt 0 → 9 - x3.toInt < (m : Int) → pmE pg X pg_tyl pg_cl (d + 2) 294 65 [.ref 147, .int x1, .int x2, .int x3, u4, pm_dead] [] (md wc f A) Q := by
  intro m
  induction m with
  | zero =>
    intro A x3 u4 hI hF gx3 hpi0 hm
    exfalso
    have l0 := zi_lo x3
    have u0 := zi_hi x3
    omega
  | succ m ih =>
    intro A x3 u4 hI hF gx3 hpi0 hm
    refine pe_iload_n (j := 3) (by decide +kernel) rfl ?_
    refine pe_aload_n (j := 0) (by decide +kernel) rfl ?_
    refine pe_get (j := 7) (ci := 12) (n := 0) (by decide +kernel) (by decide +kernel) (md_o hc) rfl ?_
    refine pe_iload_n (j := 1) (by decide +kernel) rfl ?_
    refine pz_iald (by decide +kernel) (md_a148 hc) (mlen_148 hI) rfl (by omega) (by omega) (fun v1 ev1 => ?_)
    have rv1 : 0 ≤ v1.toInt ∧ v1.toInt ≤ 9 := MT_people (mt_148 hI ev1 (by omega)) (by omega)
    rw [show A 148 = A0 148 from (hF 148 (by decide) (by decide))] at ev1
    refine pz_icmp_ge (off := 102) (t := 174) (by decide +kernel) (by decide) rfl rfl rfl (fun h2 => ?_) (fun h2 => ?_)
    · skip
      exact k_174_0 A x3 (u4) hI (fun k n164 n165 => (hF k n164 n165)) (by omega) hpi0 (by rw [(show fr (A0 148) (x1.toInt) = v1.toInt from congrArg Int32.toInt ev1.symm)]; omega)
    · skip
      have ha33 : x3.toInt < (fr (A 148) x1.toInt) := by rw [show A 148 = A0 148 from (hF 148 (by decide) (by decide)), (show fr (A0 148) (x1.toInt) = v1.toInt from congrArg Int32.toInt ev1.symm)]; omega
      refine pe_iconstv (n := 0) (v := 0) (by decide +kernel) (by decide +kernel) ?_
      refine pe_istore (j := 4) (ls' := [.ref 147, .int x1, .int x2, .int x3, .int 0, pm_dead]) (by decide +kernel) (Nat.le_of_ble_eq_true rfl) rfl ?_
      refine NL_294_78 hc (by omega) (by omega) (by omega) (mpeo hI (by omega)) (BN_fr hpk1 (hF 160 (by decide) (by decide)) (hF 161 (by decide) (by decide)) (hF 162 (by decide) (by decide))) ha33 (fun A4 y5 hIy6 hFA4 gy5 hp7 hp8 => ?_) 10 A 0 hI (fun k _ _ => rfl) (by decide +kernel) (by rw [kz_0, show A 148 = A0 148 from (hF 148 (by decide) (by decide))]; exact hpi0) (by decide +kernel)
      refine pz_iinc (j := 3) (n := 1) (by decide +kernel) rfl rfl (by decide +kernel) (by omega) (by omega) (fun z9 hz9 => ?_)
      show pmE pg X pg_tyl pg_cl (d + 2) 294 171 [.ref 147, .int x1, .int x2, .int z9, .int y5, pm_dead] [] (md wc f A4) _
      refine pe_goto (off := (-106)) (t := 65) (by decide +kernel) (by decide) rfl ?_
      exact ih A4 z9 (.int y5) hIy6 (fun k n164 n165 => ((hFA4 k n164 n165)).trans ((hF k n164 n165))) (by omega) (by have h := hp7; have h2 := hp8; rw [show A 148 = A0 148 from (hF 148 (by decide) (by decide))] at h h2; rw [hz9]; exact BF_row h h2 (by omega)) (by omega)
set_option maxRecDepth 100000 in
set_option maxHeartbeats 8000000 in
theorem NL_294_57 {X : pm_X} {d : Nat} {wc : pm_W} {Q : pm_R → Prop} {f : Nat → Int32} {A0 : Nat → List Int32} {x1 : Int32} (hc : wc.length = 147) (gx1 : (610 ≤ x1.toInt ∧ x1.toInt ≤ 742 ∧ (x1.toInt - 610) % 132 = 0)) (hpk0 : 0 ≤ (fr (A0 148) x1.toInt) ∧ (fr (A0 148) x1.toInt) ≤ 9) (hpk1 : BN A0 20001) (k_180_0 : ∀ (A' : Nat → List Int32) (y2 : Int32) (v3 : Value) (v4 : Value), MI f A' → (∀ k : Nat, k ≠ 164 → k ≠ 165 → A' k = A0 k) → (10 ≤ y2.toInt ∧ y2.toInt ≤ 10) → BF A' (fr (A0 148) x1.toInt) (y2.toInt + 1) 0 0 → pmE pg X pg_tyl pg_cl (d + 2) 294 180 [.ref 147, .int x1, .int y2, v3, v4, pm_dead] [] (md wc f A') Q) : ∀ (m : Nat) (A : Nat → List Int32) (x2 : Int32) (u3 : Value) (u4 : Value), MI f A → (∀ k : Nat, k ≠ 164 → k ≠ 165 → A k = A0 k) → (0 ≤ x2.toInt ∧ x2.toInt ≤ 10) → BF A (fr (A0 148) x1.toInt) (x2.toInt + 1) 0 0 → 10 - x2.toInt < (m : Int) → pmE pg X pg_tyl pg_cl (d + 2) 294 57 [.ref 147, .int x1, .int x2, u3, u4, pm_dead] [] (md wc f A) Q := by
  intro m
  induction m with
  | zero =>
    intro A x2 u3 u4 hI hF gx2 hpi0 hm
    exfalso
    have l0 := zi_lo x2
    have u0 := zi_hi x2
    omega
  | succ m ih =>
    intro A x2 u3 u4 hI hF gx2 hpi0 hm
    refine pe_iload_n (j := 2) (by decide +kernel) rfl ?_
    refine pe_bipushv (n := 10) (v := 10) (by decide +kernel) (by decide +kernel) ?_
    refine pz_icmp_ge (off := 120) (t := 180) (by decide +kernel) (by decide) rfl rfl kz_10 (fun h1 => ?_) (fun h1 => ?_)
    · skip
      exact k_180_0 A x2 (u3) (u4) hI (fun k n164 n165 => (hF k n164 n165)) (by omega) hpi0
    · skip
      refine pe_iconstv (n := 0) (v := 0) (by decide +kernel) (by decide +kernel) ?_
      refine pe_istore_n (j := 3) (ls' := [.ref 147, .int x1, .int x2, .int 0, u4, pm_dead]) (by decide +kernel) (Nat.le_of_ble_eq_true rfl) rfl ?_
      refine NL_294_65 hc (by omega) (by omega) (mpeo hI (by omega)) (BN_fr hpk1 (hF 160 (by decide) (by decide)) (hF 161 (by decide) (by decide)) (hF 162 (by decide) (by decide))) (fun A2 y3 u4 hIy5 hFA2 gy3 hp6 hp7 => ?_) 10 A 0 (u4) hI (fun k _ _ => rfl) (by decide +kernel) (by rw [kz_0, show A 148 = A0 148 from (hF 148 (by decide) (by decide))]; exact hpi0) (by decide +kernel)
      refine pz_iinc (j := 2) (n := 1) (by decide +kernel) rfl rfl (by decide +kernel) (by omega) (by omega) (fun z8 hz8 => ?_)
      show pmE pg X pg_tyl pg_cl (d + 2) 294 177 [.ref 147, .int x1, .int z8, .int y3, u4, pm_dead] [] (md wc f A2) _
      refine pe_goto (off := (-120)) (t := 57) (by decide +kernel) (by decide) rfl ?_
      exact ih A2 z8 (.int y3) (u4) hIy5 (fun k n164 n165 => ((hFA2 k n164 n165)).trans ((hF k n164 n165))) (by omega) (by have h := hp6; have h2 := hp7; rw [show A 148 = A0 148 from (hF 148 (by decide) (by decide))] at h h2; rw [hz8]; exact BF_turn h h2 (by omega)) (by omega)
set_option maxRecDepth 100000 in
set_option maxHeartbeats 8000000 in
theorem NL_294_2 {X : pm_X} {d : Nat} {wc : pm_W} {Q : pm_R → Prop} {f : Nat → Int32} {A0 : Nat → List Int32} {x1 : Int32} (hc : wc.length = 147) (gx1 : (610 ≤ x1.toInt ∧ x1.toInt ≤ 742 ∧ (x1.toInt - 610) % 132 = 0)) (k_55_0 : ∀ (A' : Nat → List Int32) (y2 : Int32), MI f A' → (∀ k : Nat, k ≠ 164 → k ≠ 165 → A' k = A0 k) → (10 ≤ y2.toInt ∧ y2.toInt ≤ 10) → BI A' y2.toInt → pmE pg X pg_tyl pg_cl (d + 2) 294 55 [.ref 147, .int x1, .int y2, pm_dead, pm_dead, pm_dead] [] (md wc f A') Q) : ∀ (m : Nat) (A : Nat → List Int32) (x2 : Int32), MI f A → (∀ k : Nat, k ≠ 164 → k ≠ 165 → A k = A0 k) → (0 ≤ x2.toInt ∧ x2.toInt ≤ 10) → BI A x2.toInt → 10 - x2.toInt < (m : Int) → pmE pg X pg_tyl pg_cl (d + 2) 294 2 [.ref 147, .int x1, .int x2, pm_dead, pm_dead, pm_dead] [] (md wc f A) Q := by
  intro m
  induction m with
  | zero =>
    intro A x2 hI hF gx2 hpi0 hm
    exfalso
    have l0 := zi_lo x2
    have u0 := zi_hi x2
    omega
  | succ m ih =>
    intro A x2 hI hF gx2 hpi0 hm
    refine pe_iload_n (j := 2) (by decide +kernel) rfl ?_
    refine pe_bipushv (n := 10) (v := 10) (by decide +kernel) (by decide +kernel) ?_
    refine pz_icmp_ge (off := 50) (t := 55) (by decide +kernel) (by decide) rfl rfl kz_10 (fun h1 => ?_) (fun h1 => ?_)
    · skip
      exact k_55_0 A x2 hI (fun k n164 n165 => (hF k n164 n165)) (by omega) hpi0
    · skip
      refine pe_aload_n (j := 0) (by decide +kernel) rfl ?_
      refine pe_get (j := 59) (ci := 12) (n := 29) (by decide +kernel) (by decide +kernel) (md_o hc) rfl ?_
      refine pe_iload_n (j := 2) (by decide +kernel) rfl ?_
      refine pe_aload_n (j := 0) (by decide +kernel) rfl ?_
      refine pe_get (j := 56) (ci := 12) (n := 28) (by decide +kernel) (by decide +kernel) (md_o hc) rfl ?_
      refine pe_iload_n (j := 2) (by decide +kernel) rfl ?_
      refine pz_iald (by decide +kernel) (md_a163 hc) (mlen_163 hI) rfl (by omega) (by omega) (fun v2 ev2 => ?_)
      rw [show A 163 = A0 163 from (hF 163 (by decide) (by decide))] at ev2
      have lw4 := zi_lo v2
      have uw4 := zi_hi v2
      refine pz_if_le (off := 7) (t := 26) (by decide +kernel) (by decide) rfl rfl (fun h3 => ?_) (fun h3 => ?_)
      · skip
        refine pe_iconstv (n := (-1)) (v := (-1)) (by decide +kernel) (by decide +kernel) ?_
        refine mz_st164 (by decide +kernel) hc hI rfl (by omega) (by omega) (by rw [kz_m1]; simp only [MP_from0]; omega) (fun A5 eA5 hIA5 => ?_)
        refine pe_aload_n (j := 0) (by decide +kernel) rfl ?_
        refine pe_get (j := 62) (ci := 12) (n := 30) (by decide +kernel) (by decide +kernel) (md_o hc) rfl ?_
        refine pe_iload_n (j := 2) (by decide +kernel) rfl ?_
        refine pe_aload_n (j := 0) (by decide +kernel) rfl ?_
        refine pe_get (j := 56) (ci := 12) (n := 28) (by decide +kernel) (by decide +kernel) (md_o hc) rfl ?_
        refine pe_iload_n (j := 2) (by decide +kernel) rfl ?_
        refine pz_iald (by decide +kernel) (md_a163 hc) (mlen_163 hIA5) rfl (by omega) (by omega) (fun v6 ev6 => ?_)
        rw [show A5 163 = A0 163 from (upa_fr eA5 (by decide)).trans ((hF 163 (by decide) (by decide)))] at ev6
        rw [ev6.trans ev2.symm]
        clear ev6 v6
        refine pz_if_le (off := 7) (t := 46) (by decide +kernel) (by decide) rfl rfl (fun h7 => ?_) (fun h7 => by omega)
        refine pe_ldc (j := 243) (v := 1000000) (by decide +kernel) (by decide +kernel) ?_
        refine mz_st165 (by decide +kernel) hc hIA5 rfl (by omega) (by omega) (fun A8 eA8 hIA8 => ?_)
        refine pz_iinc (j := 2) (n := 1) (by decide +kernel) rfl rfl (by decide +kernel) (by omega) (by omega) (fun z9 hz9 => ?_)
        show pmE pg X pg_tyl pg_cl (d + 2) 294 52 [.ref 147, .int x1, .int z9, pm_dead, pm_dead, pm_dead] [] (md wc f A8) _
        refine pe_goto (off := (-50)) (t := 2) (by decide +kernel) (by decide) rfl ?_
        exact ih A8 z9 hIA8 (fun k n164 n165 => (upa_fr eA8 n165).trans ((upa_fr eA5 n164).trans ((hF k n164 n165)))) (by omega) (by rw [hz9]; exact BI_step hpi0 (by omega) (by omega) (mlen_164 hI) (mlen_165 hI) eA5 eA8 (Or.inr ⟨by rw [show A 163 = A0 163 from (hF 163 (by decide) (by decide)), (show fr (A0 163) (x2.toInt) = v2.toInt from congrArg Int32.toInt ev2.symm)]; omega, kz_m1, kz_1000000⟩)) (by omega)
      · skip
        refine pe_iload_n (j := 2) (by decide +kernel) rfl ?_
        refine pe_goto (off := 4) (t := 27) (by decide +kernel) (by decide) rfl ?_
        refine mz_st164 (by decide +kernel) hc hI rfl (by omega) (by omega) (by simp only [MP_from0]; omega) (fun A10 eA10 hIA10 => ?_)
        refine pe_aload_n (j := 0) (by decide +kernel) rfl ?_
        refine pe_get (j := 62) (ci := 12) (n := 30) (by decide +kernel) (by decide +kernel) (md_o hc) rfl ?_
        refine pe_iload_n (j := 2) (by decide +kernel) rfl ?_
        refine pe_aload_n (j := 0) (by decide +kernel) rfl ?_
        refine pe_get (j := 56) (ci := 12) (n := 28) (by decide +kernel) (by decide +kernel) (md_o hc) rfl ?_
        refine pe_iload_n (j := 2) (by decide +kernel) rfl ?_
        refine pz_iald (by decide +kernel) (md_a163 hc) (mlen_163 hIA10) rfl (by omega) (by omega) (fun v11 ev11 => ?_)
        rw [show A10 163 = A0 163 from (upa_fr eA10 (by decide)).trans ((hF 163 (by decide) (by decide)))] at ev11
        rw [ev11.trans ev2.symm]
        clear ev11 v11
        refine pz_if_le (off := 7) (t := 46) (by decide +kernel) (by decide) rfl rfl (fun h12 => by omega) (fun h12 => ?_)
        refine pe_iconstv (n := 0) (v := 0) (by decide +kernel) (by decide +kernel) ?_
        refine pe_goto (off := 5) (t := 48) (by decide +kernel) (by decide) rfl ?_
        refine mz_st165 (by decide +kernel) hc hIA10 rfl (by omega) (by omega) (fun A13 eA13 hIA13 => ?_)
        refine pz_iinc (j := 2) (n := 1) (by decide +kernel) rfl rfl (by decide +kernel) (by omega) (by omega) (fun z14 hz14 => ?_)
        show pmE pg X pg_tyl pg_cl (d + 2) 294 52 [.ref 147, .int x1, .int z14, pm_dead, pm_dead, pm_dead] [] (md wc f A13) _
        refine pe_goto (off := (-50)) (t := 2) (by decide +kernel) (by decide) rfl ?_
        exact ih A13 z14 hIA13 (fun k n164 n165 => (upa_fr eA13 n165).trans ((upa_fr eA10 n164).trans ((hF k n164 n165)))) (by omega) (by rw [hz14]; exact BI_step hpi0 (by omega) (by omega) (mlen_164 hI) (mlen_165 hI) eA10 eA13 (Or.inl ⟨by rw [show A 163 = A0 163 from (hF 163 (by decide) (by decide)), (show fr (A0 163) (x2.toInt) = v2.toInt from congrArg Int32.toInt ev2.symm)]; omega, rfl, kz_0⟩)) (by omega)
set_option maxRecDepth 100000 in
set_option maxHeartbeats 8000000 in
theorem NM_294 {X : pm_X} {d : Nat} {wc : pm_W} {f : Nat → Int32} {A : Nat → List Int32} {x1 : Int32} (hc : wc.length = 147) (hI : MI f A) (gx1 : (610 ≤ x1.toInt ∧ x1.toInt ≤ 742 ∧ (x1.toInt - 610) % 132 = 0)) (hpp0 : GJ A (fr (A 148) x1.toInt)) (hpp1 : 0 < ps (A 163)) : pmE pg X pg_tyl pg_cl (d + 2) 294 0 (pm_ent (pm_max pg 294) [.ref 147, .int x1]) [] (md wc f A) (fun q => ∃ (A' : Nat → List Int32), q = (none, md wc f A', 0, 0) ∧ MI f A' ∧ (∀ k : Nat, k ≠ 162 → k ≠ 163 → k ≠ 164 → k ≠ 165 → A' k = A k) ∧ ((GJ A' (fr (A 148) x1.toInt) ∧ ps (A' 163) + 1 = ps (A 163) ∧ True))) := by
  show pmE pg X pg_tyl pg_cl (d + 2) 294 0 [.ref 147, .int x1, pm_dead, pm_dead, pm_dead, pm_dead] [] (md wc f A) _
  refine pe_iconstv (n := 0) (v := 0) (by decide +kernel) (by decide +kernel) ?_
  refine pe_istore_n (j := 2) (ls' := [.ref 147, .int x1, .int 0, pm_dead, pm_dead, pm_dead]) (by decide +kernel) (Nat.le_of_ble_eq_true rfl) rfl ?_
  refine NL_294_2 hc (by omega) (fun A1 y2 hIy3 hFA1 gy2 hp4 => ?_) 11 A 0 hI (fun k _ _ => rfl) (by decide +kernel) (fun b b0 b1 => absurd b1 (by rw [kz_0]; omega)) (by decide +kernel)
  have hpe := mpeo (v := x1.toInt) hI (by omega)
  have hgi6 := GI_fr (B := A1) hpp0 ((hFA1 160 (by decide) (by decide))) ((hFA1 161 (by decide) (by decide))) ((hFA1 162 (by decide) (by decide))) ((hFA1 163 (by decide) (by decide)))
  have hbf5 : BF A1 (fr (A 148) x1.toInt) 1 0 0 := BF_init (by have h := hp4; rw [show y2.toInt = 10 by omega] at h; exact h) hpe.2 hgi6.2.2
  refine pe_iconstv (n := 0) (v := 0) (by decide +kernel) (by decide +kernel) ?_
  refine pe_istore_n (j := 2) (ls' := [.ref 147, .int x1, .int 0, pm_dead, pm_dead, pm_dead]) (by decide +kernel) (Nat.le_of_ble_eq_true rfl) rfl ?_
  refine NL_294_57 hc (by omega) (mpeo hIy3 (by omega)) (BN_up (C := 20001) (GI_fr (B := A1) hpp0 ((hFA1 160 (by decide) (by decide))) ((hFA1 161 (by decide) (by decide))) ((hFA1 162 (by decide) (by decide))) ((hFA1 163 (by decide) (by decide)))).1 (by omega)) (fun A7 y8 u9 u10 hIy11 hFA7 gy8 hp12 => ?_) 11 A1 0 (pm_dead) (pm_dead) hIy3 (fun k _ _ => rfl) (by decide +kernel) (by rw [kz_0, show A1 148 = A 148 from (hFA1 148 (by decide) (by decide))]; exact hbf5) (by decide +kernel)
  have hgi13 := GI_fr (B := A7) hpp0 (((hFA7 160 (by decide) (by decide))).trans ((hFA1 160 (by decide) (by decide)))) (((hFA7 161 (by decide) (by decide))).trans ((hFA1 161 (by decide) (by decide)))) (((hFA7 162 (by decide) (by decide))).trans ((hFA1 162 (by decide) (by decide)))) (((hFA7 163 (by decide) (by decide))).trans ((hFA1 163 (by decide) (by decide))))
  have hps0 : 0 < ps (A7 163) := by rw [show A7 163 = A 163 from ((hFA7 163 (by decide) (by decide))).trans ((hFA1 163 (by decide) (by decide)))]; exact hpp1
  obtain ⟨sr, sr0, sr1, hsr⟩ := GJ_src hgi13 hps0 (mlen_163 hIy11)
  obtain ⟨rk, hgw⟩ := BF_end (by have h := hp12; rw [show y8.toInt + 1 = 11 by omega, show A1 148 = A 148 from (hFA1 148 (by decide) (by decide))] at h; exact h) hpe.2 sr0 sr1 hsr
  refine pe_iconstv (n := (-1)) (v := (-1)) (by decide +kernel) (by decide +kernel) ?_
  refine pe_istore_n (j := 2) (ls' := [.ref 147, .int x1, .int (-1), u9, u10, pm_dead]) (by decide +kernel) (Nat.le_of_ble_eq_true rfl) rfl ?_
  refine pe_iconstv (n := 0) (v := 0) (by decide +kernel) (by decide +kernel) ?_
  refine pe_istore_n (j := 3) (ls' := [.ref 147, .int x1, .int (-1), .int 0, u10, pm_dead]) (by decide +kernel) (Nat.le_of_ble_eq_true rfl) rfl ?_
  refine NL_294_184 hc hIy11 (by omega) (fun y14 y15 gy14 gy15 hp16 hp17 => ?_) 10 (-1) 0 (by decide +kernel) (by decide +kernel) ⟨fun h => absurd h (by decide +kernel), fun _ q q0 q1 => absurd q1 (by rw [kz_0]; omega)⟩ (by decide +kernel)
  have hTO := hp16
  have htx19 := hp17
  rw [show A7 148 = A 148 from ((hFA7 148 (by decide) (by decide))).trans ((hFA1 148 (by decide) (by decide)))] at hTO htx19
  have hto18 : 0 ≤ y14.toInt := TO_end hTO hgi13 hps0 htx19 hpe.1 (mlen_163 hIy11)
  have hto := hTO.1 hto18
  refine pe_aload_n (j := 0) (by decide +kernel) rfl ?_
  refine pe_get (j := 56) (ci := 12) (n := 28) (by decide +kernel) (by decide +kernel) (md_o hc) rfl ?_
  refine pe_iload_n (j := 2) (by decide +kernel) rfl ?_
  refine pe_dup2 (by decide +kernel) ⟨rfl, rfl⟩ ?_
  refine pz_iald (by decide +kernel) (md_a163 hc) (mlen_163 hIy11) rfl (by omega) (by omega) (fun v20 ev20 => ?_)
  rw [show A7 163 = A 163 from ((hFA7 163 (by decide) (by decide))).trans ((hFA1 163 (by decide) (by decide)))] at ev20
  have hb21 := hgi13.2.1.1 (y14.toInt) (by omega) (by omega)
  rw [show A7 163 = A 163 from ((hFA7 163 (by decide) (by decide))).trans ((hFA1 163 (by decide) (by decide)))] at hb21
  rw [(show fr (A 163) (y14.toInt) = v20.toInt from congrArg Int32.toInt ev20.symm)] at hb21
  have hneg22 := hto.2
  rw [show A7 163 = A 163 from ((hFA7 163 (by decide) (by decide))).trans ((hFA1 163 (by decide) (by decide)))] at hneg22
  rw [(show fr (A 163) (y14.toInt) = v20.toInt from congrArg Int32.toInt ev20.symm)] at hneg22
  refine pe_iconstv (n := 1) (v := 1) (by decide +kernel) (by decide +kernel) ?_
  refine pz_add (by decide +kernel) rfl kz_1 (by omega) (by omega) (fun z23 hz23 => ?_)
  refine mz_st163 (by decide +kernel) hc hIy11 rfl (by omega) (by omega) (fun A24 eA24 hIA24 => ?_)
  have hgw1 := GW_to (v := z23) hgw (by omega) (by omega) (mlen_163 hIy11) hto.2 (by rw [show A7 163 = A 163 from ((hFA7 163 (by decide) (by decide))).trans ((hFA1 163 (by decide) (by decide))), (show fr (A 163) (y14.toInt) = v20.toInt from congrArg Int32.toInt ev20.symm)]; omega) eA24
  refine pe_iload_n (j := 2) (by decide +kernel) rfl ?_
  refine pe_istore_n (j := 3) (ls' := [.ref 147, .int x1, .int y14, .int y14, u10, pm_dead]) (by decide +kernel) (Nat.le_of_ble_eq_true rfl) rfl ?_
  refine NL_294_242 (rk := rk) hc (by omega) (by omega) (by rw [show A24 148 = A 148 from (upa_fr eA24 (by decide)).trans (((hFA7 148 (by decide) (by decide))).trans ((hFA1 148 (by decide) (by decide))))]; exact hgw1) (BN_fr (BN_up (C := 20001) hgi13.1 (by omega)) (upa_fr eA24 (by decide)) (upa_fr eA24 (by decide)) (upa_fr eA24 (by decide))) (mpeo hIA24 (by omega)) (fun A25 y26 u27 u28 hIy29 hFA25 gy26 hp30 hp31 hp32 => ?_) (rk y14.toInt + 1) A24 y14 (u10) (pm_dead) hIA24 (fun k _ => rfl) (by omega) (PW_zero (by rw [show A24 148 = A 148 from (upa_fr eA24 (by decide)).trans (((hFA7 148 (by decide) (by decide))).trans ((hFA1 148 (by decide) (by decide))))]; exact hgw1) (BN_fr (BN_up (C := 20001) hgi13.1 (by omega)) (upa_fr eA24 (by decide)) (upa_fr eA24 (by decide)) (upa_fr eA24 (by decide)))) (by rw [show A24 148 = A 148 from (upa_fr eA24 (by decide)).trans (((hFA7 148 (by decide) (by decide))).trans ((hFA1 148 (by decide) (by decide))))]; exact hto.1) (Nat.lt_succ_self _)
  have hXL := hp31
  rw [show A24 148 = A 148 from (upa_fr eA24 (by decide)).trans (((hFA7 148 (by decide) (by decide))).trans ((hFA1 148 (by decide) (by decide))))] at hXL
  refine pe_aload_n (j := 0) (by decide +kernel) rfl ?_
  refine pe_get (j := 56) (ci := 12) (n := 28) (by decide +kernel) (by decide +kernel) (md_o hc) rfl ?_
  refine pe_iload_n (j := 3) (by decide +kernel) rfl ?_
  refine pe_dup2 (by decide +kernel) ⟨rfl, rfl⟩ ?_
  refine pz_iald (by decide +kernel) (md_a163 hc) (mlen_163 hIy29) rfl (by omega) (by omega) (fun v33 ev33 => ?_)
  rw [show A25 163 = A24 163 from (hFA25 163 (by decide))] at ev33
  have hpos34 := GW_root hgw1 (by omega) hXL hp32
  rw [(show fr (A24 163) (y26.toInt) = v33.toInt from congrArg Int32.toInt ev33.symm)] at hpos34
  refine pe_iconstv (n := 1) (v := 1) (by decide +kernel) (by decide +kernel) ?_
  have lw36 := zi_lo v33
  have uw36 := zi_hi v33
  refine pz_sub (by decide +kernel) rfl kz_1 (by omega) (by omega) (fun z35 hz35 => ?_)
  refine mz_st163 (by decide +kernel) hc hIy29 rfl (by omega) (by omega) (fun A37 eA37 hIA37 => ?_)
  have hpwe := hp30
  rw [show A24 148 = A 148 from (upa_fr eA24 (by decide)).trans (((hFA7 148 (by decide) (by decide))).trans ((hFA1 148 (by decide) (by decide))))] at hpwe
  have hto2 := hto.2
  have h163 : A7 163 = A 163 := ((hFA7 163 (by decide) (by decide))).trans ((hFA1 163 (by decide) (by decide)))
  rw [h163] at hto2
  have hge := GJ_end (v := z23) (w := z35) hpp0 hgw1 hpwe hpe.1 hpe.2 (mlen_163 hI) (by omega) hto.1 hto2 (by rw [← h163, show A7 163 = A 163 from ((hFA7 163 (by decide) (by decide))).trans ((hFA1 163 (by decide) (by decide))), (show fr (A 163) (y14.toInt) = v20.toInt from congrArg Int32.toInt ev20.symm)]; omega) (by rw [upa_at eA24, h163]) ((upa_fr eA24 (by decide)).trans (((hFA7 160 (by decide) (by decide))).trans ((hFA1 160 (by decide) (by decide))))) ((upa_fr eA24 (by decide)).trans (((hFA7 161 (by decide) (by decide))).trans ((hFA1 161 (by decide) (by decide))))) ((upa_fr eA24 (by decide)).trans (((hFA7 162 (by decide) (by decide))).trans ((hFA1 162 (by decide) (by decide))))) ((hFA25 160 (by decide))) ((hFA25 161 (by decide))) ((hFA25 163 (by decide))) ((hFA25 165 (by decide))) (by omega) hXL hp32 (by rw [show A25 163 = A24 163 from (hFA25 163 (by decide)), (show fr (A24 163) (y26.toInt) = v33.toInt from congrArg Int32.toInt ev33.symm)]; omega) eA37
  exact pe_vret (by decide +kernel) rfl ⟨A37, rfl, hIA37, (fun k n162 n163 n164 n165 => (upa_fr eA37 n163).trans (((hFA25 k n162)).trans ((upa_fr eA24 n163).trans (((hFA7 k n164 n165)).trans ((hFA1 k n164 n165)))))), ⟨hge.1, hge.2, trivial⟩⟩
end
section
set_option maxRecDepth 100000 in
set_option maxHeartbeats 8000000 in
theorem NM_265 {X : pm_X} {d : Nat} {wc : pm_W} {f : Nat → Int32} {A : Nat → List Int32} {x1 x2 x3 x4 : Int32} (hc : wc.length = 147) (hI : MI f A) : pmE pg X pg_tyl pg_cl (d + 7) 265 0 (pm_ent (pm_max pg 265) [.ref 147, .int x1, .int x2, .int x3, .int x4]) [] (md wc f A) (fun q => ∃ (f' : Nat → Int32) (A' : Nat → List Int32) (r : Int32), q = (some (.int r), md wc f' A', 0, 0) ∧ MI f' A' ∧ (∀ k : Nat, k ≠ 14 → k ≠ 15 → k ≠ 16 → f' k = f k) ∧ (∀ k : Nat, k ≠ 152 → k ≠ 153 → A' k = A k) ∧ ((r = 0 ∧ True) ∨ (r = 1 ∧ DF (A' 152) (fr (A 148) (610 + 132 * x1.toInt)) 17820 ∧ (0 ≤ x1.toInt ∧ x1.toInt ≤ 1) ∧ ((-1) ≤ x2.toInt ∧ x2.toInt ≤ 2) ∧ (0 ≤ x3.toInt ∧ x3.toInt ≤ 30) ∧ (0 ≤ x4.toInt ∧ x4.toInt ≤ 6)))) := by
  show pmE pg X pg_tyl pg_cl (d + 7) 265 0 [.ref 147, .int x1, .int x2, .int x3, .int x4] [] (md wc f A) _
  refine pe_aload_n (j := 0) (by decide +kernel) rfl ?_
  refine pe_iload_n (j := 1) (by decide +kernel) rfl ?_
  refine pe_iload_n (j := 2) (by decide +kernel) rfl ?_
  refine pe_iload_n (j := 3) (by decide +kernel) rfl ?_
  refine pz_callV (j := 232) (mj := 246) (by decide +kernel) (cll_V (args := [.int x3, .int x2, .int x1]) (n := 3) (by decide +kernel) rfl rfl (md_o hc) (by decide +kernel) (Nat.le_of_ble_eq_true rfl) (Nat.le_of_ble_eq_true rfl)) (NM_246 hc hI) (fun q1a q1b q1c q1d hqq1 => ?_)
  obtain ⟨f2, A3, rq1, eq1, hIq1, hGq1, hFq1, kq1⟩ := hqq1
  cases eq1
  refine ⟨rfl, rfl, ?_⟩
  rcases kq1 with kq1 | kq1
  · skip
    obtain ⟨erq1, kq1⟩ := kq1
    subst erq1
    show pmE pg X pg_tyl pg_cl (d + 7) 265 7 [.ref 147, .int x1, .int x2, .int x3, .int x4] [.int 0] (md wc f2 A3) _
    refine pz_if_eq (off := 21) (t := 28) (by decide +kernel) (by decide) rfl kz_0 (fun h4 => ?_) (fun h4 => by omega)
    refine pe_iconstv (n := 0) (v := 0) (by decide +kernel) (by decide +kernel) ?_
    exact pe_iret (by decide +kernel) rfl rfl ⟨f2, A3, 0, rfl, hIq1, (fun k n14 n15 n16 => (hGq1 k n14 n15 n16)), (fun k n152 n153 => (hFq1 k n152 n153)), Or.inl ⟨rfl, trivial⟩⟩
  · skip
    obtain ⟨erq1, kq1⟩ := kq1
    subst erq1
    obtain ⟨hp5, kq1⟩ := kq1
    show pmE pg X pg_tyl pg_cl (d + 7) 265 7 [.ref 147, .int x1, .int x2, .int x3, .int x4] [.int 1] (md wc f2 A3) _
    refine pz_if_eq (off := 21) (t := 28) (by decide +kernel) (by decide) rfl kz_1 (fun h6 => by omega) (fun h6 => ?_)
    refine pe_aload_n (j := 0) (by decide +kernel) rfl ?_
    refine pe_iconstv (n := 0) (v := 0) (by decide +kernel) (by decide +kernel) ?_
    refine pe_iload_n (j := 1) (by decide +kernel) rfl ?_
    refine pi_S (j := 163) (mj := 217) (by decide +kernel) (by decide +kernel) rfl ?_
    show pmE pg X pg_tyl pg_cl (d + 6) 217 0 [.int 0, .int x1] [] (md wc f2 A3) _
    refine pe_iload_n (j := 0) (by decide +kernel) rfl ?_
    refine pz_if_ne (off := 15) (t := 16) (by decide +kernel) (by decide) rfl kz_0 (fun h7 => by omega) (fun h7 => ?_)
    refine pe_sipushv (n := 610) (v := 610) (by decide +kernel) (by decide +kernel) ?_
    refine pe_sipushv (n := 132) (v := 132) (by decide +kernel) (by decide +kernel) ?_
    refine pe_iload_n (j := 1) (by decide +kernel) rfl ?_
    refine pz_mul (by decide +kernel) kz_132 rfl (by omega) (by omega) (fun z8 hz8 => ?_)
    refine pz_add (by decide +kernel) kz_610 hz8 (by omega) (by omega) (fun z9 hz9 => ?_)
    clear hz8
    refine pe_goto (off := 12) (t := 25) (by decide +kernel) (by decide) rfl ?_
    refine pe_iret (by decide +kernel) rfl rfl ⟨rfl, rfl, ?_⟩
    show pmE pg X pg_tyl pg_cl (d + 7) 265 16 [.ref 147, .int x1, .int x2, .int x3, .int x4] [.int z9, .ref 147] (md wc f2 A3) _
    refine pe_iload (j := 4) (by decide +kernel) rfl ?_
    refine pi_V (j := 169) (mj := 223) (by decide +kernel) (cll_V (args := [.int x4, .int z9]) (n := 2) (by decide +kernel) rfl rfl (md_o hc) (by decide +kernel) (Nat.le_of_ble_eq_true rfl) (Nat.le_of_ble_eq_true rfl)) ?_
    show pmE pg X pg_tyl pg_cl (d + 6) 223 0 [.ref 147, .int z9, .int x4] [] (md wc f2 A3) _
    refine pe_iload_n (j := 2) (by decide +kernel) rfl ?_
    refine pe_iconstv (n := 0) (v := 0) (by decide +kernel) (by decide +kernel) ?_
    refine pe_aload_n (j := 0) (by decide +kernel) rfl ?_
    refine pe_get (j := 7) (ci := 12) (n := 0) (by decide +kernel) (by decide +kernel) (md_o hc) rfl ?_
    refine pe_iload_n (j := 1) (by decide +kernel) rfl ?_
    refine pe_iconstv (n := 1) (v := 1) (by decide +kernel) (by decide +kernel) ?_
    refine pz_add (by decide +kernel) hz9 kz_1 (by omega) (by omega) (fun z10 hz10 => ?_)
    refine pz_iald (by decide +kernel) (md_a148 hc) (mlen_148 hIq1) hz10 (by omega) (by omega) (fun v11 ev11 => ?_)
    have rv11 : 0 ≤ v11.toInt ∧ v11.toInt ≤ 7 := MT_wants (mt_148 hIq1 ev11 (by omega)) (by omega)
    rw [show A3 148 = A 148 from (hFq1 148 (by decide) (by decide))] at ev11
    clear hz10
    refine pe_iconstv (n := 1) (v := 1) (by decide +kernel) (by decide +kernel) ?_
    refine pz_sub (by decide +kernel) rfl kz_1 (by omega) (by omega) (fun z12 hz12 => ?_)
    refine pi_S (j := 119) (mj := 199) (by decide +kernel) (by decide +kernel) rfl ?_
    show pmE pg X pg_tyl pg_cl (d + 5) 199 0 [.int x4, .int 0, .int z12] [] (md wc f2 A3) _
    refine pe_iload_n (j := 0) (by decide +kernel) rfl ?_
    refine pe_iload_n (j := 1) (by decide +kernel) rfl ?_
    have lw14 := zi_lo x4
    have uw14 := zi_hi x4
    refine pz_icmp_lt (off := 12) (t := 14) (by decide +kernel) (by decide) rfl rfl kz_0 (fun h13 => ?_) (fun h13 => ?_)
    · skip
      refine pe_iconstv (n := 0) (v := 0) (by decide +kernel) (by decide +kernel) ?_
      refine pe_iret (by decide +kernel) rfl rfl ⟨rfl, rfl, ?_⟩
      show pmE pg X pg_tyl pg_cl (d + 6) 223 15 [.ref 147, .int z9, .int x4] [.int 0] (md wc f2 A3) _
      refine pe_iret (by decide +kernel) rfl rfl ⟨rfl, rfl, ?_⟩
      show pmE pg X pg_tyl pg_cl (d + 7) 265 21 [.ref 147, .int x1, .int x2, .int x3, .int x4] [.int 0] (md wc f2 A3) _
      refine pz_if_eq (off := 7) (t := 28) (by decide +kernel) (by decide) rfl kz_0 (fun h15 => ?_) (fun h15 => by omega)
      refine pe_iconstv (n := 0) (v := 0) (by decide +kernel) (by decide +kernel) ?_
      exact pe_iret (by decide +kernel) rfl rfl ⟨f2, A3, 0, rfl, hIq1, (fun k n14 n15 n16 => (hGq1 k n14 n15 n16)), (fun k n152 n153 => (hFq1 k n152 n153)), Or.inl ⟨rfl, trivial⟩⟩
    · skip
      refine pe_iload_n (j := 0) (by decide +kernel) rfl ?_
      refine pe_iload_n (j := 2) (by decide +kernel) rfl ?_
      refine pz_icmp_gt (off := 7) (t := 14) (by decide +kernel) (by decide) rfl rfl hz12 (fun h16 => ?_) (fun h16 => ?_)
      · skip
        refine pe_iconstv (n := 0) (v := 0) (by decide +kernel) (by decide +kernel) ?_
        refine pe_iret (by decide +kernel) rfl rfl ⟨rfl, rfl, ?_⟩
        show pmE pg X pg_tyl pg_cl (d + 6) 223 15 [.ref 147, .int z9, .int x4] [.int 0] (md wc f2 A3) _
        refine pe_iret (by decide +kernel) rfl rfl ⟨rfl, rfl, ?_⟩
        show pmE pg X pg_tyl pg_cl (d + 7) 265 21 [.ref 147, .int x1, .int x2, .int x3, .int x4] [.int 0] (md wc f2 A3) _
        refine pz_if_eq (off := 7) (t := 28) (by decide +kernel) (by decide) rfl kz_0 (fun h17 => ?_) (fun h17 => by omega)
        refine pe_iconstv (n := 0) (v := 0) (by decide +kernel) (by decide +kernel) ?_
        exact pe_iret (by decide +kernel) rfl rfl ⟨f2, A3, 0, rfl, hIq1, (fun k n14 n15 n16 => (hGq1 k n14 n15 n16)), (fun k n152 n153 => (hFq1 k n152 n153)), Or.inl ⟨rfl, trivial⟩⟩
      · skip
        refine pe_iconstv (n := 1) (v := 1) (by decide +kernel) (by decide +kernel) ?_
        refine pe_goto (off := 4) (t := 15) (by decide +kernel) (by decide) rfl ?_
        refine pe_iret (by decide +kernel) rfl rfl ⟨rfl, rfl, ?_⟩
        show pmE pg X pg_tyl pg_cl (d + 6) 223 15 [.ref 147, .int z9, .int x4] [.int 1] (md wc f2 A3) _
        refine pe_iret (by decide +kernel) rfl rfl ⟨rfl, rfl, ?_⟩
        show pmE pg X pg_tyl pg_cl (d + 7) 265 21 [.ref 147, .int x1, .int x2, .int x3, .int x4] [.int 1] (md wc f2 A3) _
        refine pz_if_eq (off := 7) (t := 28) (by decide +kernel) (by decide) rfl kz_1 (fun h18 => by omega) (fun h18 => ?_)
        refine pe_iconstv (n := 1) (v := 1) (by decide +kernel) (by decide +kernel) ?_
        refine pe_goto (off := 4) (t := 29) (by decide +kernel) (by decide) rfl ?_
        exact pe_iret (by decide +kernel) rfl rfl ⟨f2, A3, 1, rfl, hIq1, (fun k n14 n15 n16 => (hGq1 k n14 n15 n16)), (fun k n152 n153 => (hFq1 k n152 n153)), Or.inr (⟨rfl, hp5, (by omega)⟩)⟩
set_option maxRecDepth 100000 in
set_option maxHeartbeats 8000000 in
theorem NL_276_111 {X : pm_X} {d : Nat} {wc : pm_W} {Q : pm_R → Prop} {f : Nat → Int32} {A0 : Nat → List Int32} {x1 x2 x3 x4 x5 x6 x7 x8 x9 : Int32} (hc : wc.length = 147) (gx1 : (0 ≤ x1.toInt ∧ x1.toInt ≤ 1)) (gx2 : ((-1) ≤ x2.toInt ∧ x2.toInt ≤ 2)) (gx3 : (0 ≤ x3.toInt ∧ x3.toInt ≤ 30)) (gx4 : (0 ≤ x4.toInt ∧ x4.toInt ≤ 6)) (gx5 : (610 ≤ x5.toInt ∧ x5.toInt ≤ 742 ∧ (x5.toInt - 610) % 132 = 0)) (gx6 : (0 ≤ x6.toInt ∧ x6.toInt ≤ 8)) (gx7 : (0 ≤ x7.toInt ∧ x7.toInt ≤ 8)) (gx8 : (0 ≤ x8.toInt ∧ x8.toInt ≤ 99)) (gx9 : (0 ≤ x9.toInt ∧ x9.toInt ≤ 8)) (hpk0 : N0 (A0 152)) (k_152_0 : ∀ (A' : Nat → List Int32) (y10 : Int32), MI f A' → (∀ k : Nat, k ≠ 161 → A' k = A0 k) → (0 ≤ y10.toInt ∧ y10.toInt ≤ 9) → True → pmE pg X pg_tyl pg_cl (d + 8) 276 152 [.ref 147, .int x1, .int x2, .int x3, .int x4, .int x5, .int x6, .int x7, .int x8, .int x9, .int y10] [] (md wc f A') Q) : ∀ (m : Nat) (A : Nat → List Int32) (x10 : Int32), MI f A → (∀ k : Nat, k ≠ 161 → A k = A0 k) → (0 ≤ x10.toInt ∧ x10.toInt ≤ 9) → True → 9 - x10.toInt < (m : Int) → pmE pg X pg_tyl pg_cl (d + 8) 276 111 [.ref 147, .int x1, .int x2, .int x3, .int x4, .int x5, .int x6, .int x7, .int x8, .int x9, .int x10] [] (md wc f A) Q := by
  intro m
  induction m with
  | zero =>
    intro A x10 hI hF gx10 hpi0 hm
    exfalso
    have l0 := zi_lo x10
    have u0 := zi_hi x10
    omega
  | succ m ih =>
    intro A x10 hI hF gx10 hpi0 hm
    refine pe_iload (j := 10) (by decide +kernel) rfl ?_
    refine pe_aload_n (j := 0) (by decide +kernel) rfl ?_
    refine pe_get (j := 7) (ci := 12) (n := 0) (by decide +kernel) (by decide +kernel) (md_o hc) rfl ?_
    refine pe_iload (j := 5) (by decide +kernel) rfl ?_
    refine pz_iald (by decide +kernel) (md_a148 hc) (mlen_148 hI) rfl (by omega) (by omega) (fun v1 ev1 => ?_)
    have rv1 : 0 ≤ v1.toInt ∧ v1.toInt ≤ 9 := MT_people (mt_148 hI ev1 (by omega)) (by omega)
    rw [show A 148 = A0 148 from (hF 148 (by decide))] at ev1
    refine pz_icmp_ge (off := 32) (t := 152) (by decide +kernel) (by decide) rfl rfl rfl (fun h2 => ?_) (fun h2 => ?_)
    · skip
      exact k_152_0 A x10 hI (fun k n161 => (hF k n161)) (by omega) trivial
    · skip
      refine pe_aload_n (j := 0) (by decide +kernel) rfl ?_
      refine pe_get (j := 50) (ci := 12) (n := 26) (by decide +kernel) (by decide +kernel) (md_o hc) rfl ?_
      refine pe_bipushv (n := 10) (v := 10) (by decide +kernel) (by decide +kernel) ?_
      refine pe_iload (j := 9) (by decide +kernel) rfl ?_
      refine pz_mul (by decide +kernel) kz_10 rfl (by omega) (by omega) (fun z3 hz3 => ?_)
      refine pe_iload (j := 10) (by decide +kernel) rfl ?_
      refine pz_add (by decide +kernel) hz3 rfl (by omega) (by omega) (fun z4 hz4 => ?_)
      clear hz3
      refine pe_aload_n (j := 0) (by decide +kernel) rfl ?_
      refine pe_iload (j := 5) (by decide +kernel) rfl ?_
      refine pe_iload (j := 9) (by decide +kernel) rfl ?_
      refine pe_iload (j := 10) (by decide +kernel) rfl ?_
      refine pz_callV (j := 199) (mj := 231) (by decide +kernel) (cll_V (args := [.int x10, .int x9, .int x5]) (n := 3) (by decide +kernel) rfl rfl (md_o hc) (by decide +kernel) (Nat.le_of_ble_eq_true rfl) (Nat.le_of_ble_eq_true rfl)) (NM_231 hc hI (by omega) (by omega) (by omega) (by rw [show A 152 = A0 152 from (hF 152 (by decide))]; exact hpk0)) (fun q5a q5b q5c q5d hqq5 => ?_)
      obtain ⟨rq5, eq5, hX0q5, kq5⟩ := hqq5
      cases eq5
      refine ⟨rfl, rfl, ?_⟩
      show pmE pg X pg_tyl pg_cl (d + 8) 276 145 [.ref 147, .int x1, .int x2, .int x3, .int x4, .int x5, .int x6, .int x7, .int x8, .int x9, .int x10] [.int rq5, .int z4, .ref 161] (md wc f A) _
      refine mz_st161 (by decide +kernel) hc hI hz4 (by omega) (by omega) (fun A6 eA6 hIA6 => ?_)
      refine pz_iinc (j := 10) (n := 1) (by decide +kernel) rfl rfl (by decide +kernel) (by omega) (by omega) (fun z7 hz7 => ?_)
      show pmE pg X pg_tyl pg_cl (d + 8) 276 149 [.ref 147, .int x1, .int x2, .int x3, .int x4, .int x5, .int x6, .int x7, .int x8, .int x9, .int z7] [] (md wc f A6) _
      refine pe_goto (off := (-38)) (t := 111) (by decide +kernel) (by decide) rfl ?_
      exact ih A6 z7 hIA6 (fun k n161 => (upa_fr eA6 n161).trans ((hF k n161))) (by omega) trivial (by omega)
set_option maxRecDepth 100000 in
set_option maxHeartbeats 8000000 in
theorem NL_276_96 {X : pm_X} {d : Nat} {wc : pm_W} {Q : pm_R → Prop} {f : Nat → Int32} {A0 : Nat → List Int32} {x1 x2 x3 x4 x5 x6 x7 x8 : Int32} (hc : wc.length = 147) (gx1 : (0 ≤ x1.toInt ∧ x1.toInt ≤ 1)) (gx2 : ((-1) ≤ x2.toInt ∧ x2.toInt ≤ 2)) (gx3 : (0 ≤ x3.toInt ∧ x3.toInt ≤ 30)) (gx4 : (0 ≤ x4.toInt ∧ x4.toInt ≤ 6)) (gx5 : (610 ≤ x5.toInt ∧ x5.toInt ≤ 742 ∧ (x5.toInt - 610) % 132 = 0)) (gx6 : (0 ≤ x6.toInt ∧ x6.toInt ≤ 8)) (gx7 : (0 ≤ x7.toInt ∧ x7.toInt ≤ 8)) (gx8 : (0 ≤ x8.toInt ∧ x8.toInt ≤ 99)) (hpk0 : N0 (A0 152)) (k_158_0 : ∀ (A' : Nat → List Int32) (y9 : Int32) (v10 : Value), MI f A' → (∀ k : Nat, k ≠ 161 → A' k = A0 k) → (0 ≤ y9.toInt ∧ y9.toInt ≤ 9) → True → pmE pg X pg_tyl pg_cl (d + 8) 276 158 [.ref 147, .int x1, .int x2, .int x3, .int x4, .int x5, .int x6, .int x7, .int x8, .int y9, v10] [] (md wc f A') Q) : ∀ (m : Nat) (A : Nat → List Int32) (x9 : Int32) (u10 : Value), MI f A → (∀ k : Nat, k ≠ 161 → A k = A0 k) → (0 ≤ x9.toInt ∧ x9.toInt ≤ 9) → True → 9 - x9.toInt < (m : Int) → pmE pg X pg_tyl pg_cl (d + 8) 276 96 [.ref 147, .int x1, .int x2, .int x3, .int x4, .int x5, .int x6, .int x7, .int x8, .int x9, u10] [] (md wc f A) Q := by
  intro m
  induction m with
  | zero =>
    intro A x9 u10 hI hF gx9 hpi0 hm
    exfalso
    have l0 := zi_lo x9
    have u0 := zi_hi x9
    omega
  | succ m ih =>
    intro A x9 u10 hI hF gx9 hpi0 hm
    refine pe_iload (j := 9) (by decide +kernel) rfl ?_
    refine pe_aload_n (j := 0) (by decide +kernel) rfl ?_
    refine pe_get (j := 7) (ci := 12) (n := 0) (by decide +kernel) (by decide +kernel) (md_o hc) rfl ?_
    refine pe_iload (j := 5) (by decide +kernel) rfl ?_
    refine pz_iald (by decide +kernel) (md_a148 hc) (mlen_148 hI) rfl (by omega) (by omega) (fun v1 ev1 => ?_)
    have rv1 : 0 ≤ v1.toInt ∧ v1.toInt ≤ 9 := MT_people (mt_148 hI ev1 (by omega)) (by omega)
    rw [show A 148 = A0 148 from (hF 148 (by decide))] at ev1
    refine pz_icmp_ge (off := 53) (t := 158) (by decide +kernel) (by decide) rfl rfl rfl (fun h2 => ?_) (fun h2 => ?_)
    · skip
      exact k_158_0 A x9 (u10) hI (fun k n161 => (hF k n161)) (by omega) trivial
    · skip
      refine pe_iconstv (n := 0) (v := 0) (by decide +kernel) (by decide +kernel) ?_
      refine pe_istore (j := 10) (ls' := [.ref 147, .int x1, .int x2, .int x3, .int x4, .int x5, .int x6, .int x7, .int x8, .int x9, .int 0]) (by decide +kernel) (Nat.le_of_ble_eq_true rfl) rfl ?_
      refine NL_276_111 hc (by omega) (by omega) (by omega) (by omega) (by omega) (by omega) (by omega) (by omega) (by omega) (by rw [show A 152 = A0 152 from (hF 152 (by decide))]; exact hpk0) (fun A3 y4 hIy5 hFA3 gy4 hp6 => ?_) 10 A 0 hI (fun k _ => rfl) (by decide +kernel) trivial (by decide +kernel)
      refine pz_iinc (j := 9) (n := 1) (by decide +kernel) rfl rfl (by decide +kernel) (by omega) (by omega) (fun z7 hz7 => ?_)
      show pmE pg X pg_tyl pg_cl (d + 8) 276 155 [.ref 147, .int x1, .int x2, .int x3, .int x4, .int x5, .int x6, .int x7, .int x8, .int z7, .int y4] [] (md wc f A3) _
      refine pe_goto (off := (-59)) (t := 96) (by decide +kernel) (by decide) rfl ?_
      exact ih A3 z7 (.int y4) hIy5 (fun k n161 => ((hFA3 k n161)).trans ((hF k n161))) (by omega) trivial (by omega)
set_option maxRecDepth 100000 in
set_option maxHeartbeats 8000000 in
theorem NM_276 {X : pm_X} {d : Nat} {wc : pm_W} {f : Nat → Int32} {A : Nat → List Int32} {x1 x2 x3 x4 : Int32} (hc : wc.length = 147) (hI : MI f A) : pmE pg X pg_tyl pg_cl (d + 8) 276 0 (pm_ent (pm_max pg 276) [.ref 147, .int x1, .int x2, .int x3, .int x4]) [] (md wc f A) (fun q => ∃ (f' : Nat → Int32) (A' : Nat → List Int32) (r : Int32), q = (some (.int r), md wc f' A', 0, 0) ∧ MI f' A' ∧ (∀ k : Nat, k ≠ 14 → k ≠ 15 → k ≠ 16 → f' k = f k) ∧ (∀ k : Nat, k ≠ 152 → k ≠ 153 → k ≠ 160 → k ≠ 161 → k ≠ 162 → k ≠ 163 → k ≠ 164 → A' k = A k) ∧ ((((-1000000) ≤ r.toInt ∧ r.toInt ≤ 1000099) ∧ True))) := by
  show pmE pg X pg_tyl pg_cl (d + 8) 276 0 [.ref 147, .int x1, .int x2, .int x3, .int x4, pm_dead, pm_dead, pm_dead, pm_dead, pm_dead, pm_dead] [] (md wc f A) _
  refine pe_aload_n (j := 0) (by decide +kernel) rfl ?_
  refine pe_iload_n (j := 1) (by decide +kernel) rfl ?_
  refine pe_iload_n (j := 2) (by decide +kernel) rfl ?_
  refine pe_iload_n (j := 3) (by decide +kernel) rfl ?_
  refine pe_iload (j := 4) (by decide +kernel) rfl ?_
  refine pz_callV (j := 303) (mj := 265) (by decide +kernel) (cll_V (args := [.int x4, .int x3, .int x2, .int x1]) (n := 4) (by decide +kernel) rfl rfl (md_o hc) (by decide +kernel) (Nat.le_of_ble_eq_true rfl) (Nat.le_of_ble_eq_true rfl)) (NM_265 hc hI) (fun q1a q1b q1c q1d hqq1 => ?_)
  obtain ⟨f2, A3, rq1, eq1, hIq1, hGq1, hFq1, kq1⟩ := hqq1
  cases eq1
  refine ⟨rfl, rfl, ?_⟩
  rcases kq1 with kq1 | kq1
  · skip
    obtain ⟨erq1, kq1⟩ := kq1
    subst erq1
    show pmE pg X pg_tyl pg_cl (d + 8) 276 9 [.ref 147, .int x1, .int x2, .int x3, .int x4, pm_dead, pm_dead, pm_dead, pm_dead, pm_dead, pm_dead] [.int 0] (md wc f2 A3) _
    refine pz_if_ne (off := 5) (t := 14) (by decide +kernel) (by decide) rfl kz_0 (fun h4 => by omega) (fun h4 => ?_)
    refine pe_iconstv (n := (-1)) (v := (-1)) (by decide +kernel) (by decide +kernel) ?_
    exact pe_iret (by decide +kernel) rfl rfl ⟨f2, A3, (-1), rfl, hIq1, (fun k n14 n15 n16 => (hGq1 k n14 n15 n16)), (fun k n152 n153 n160 n161 n162 n163 n164 => (hFq1 k n152 n153)), ⟨(by decide +kernel), trivial⟩⟩
  · skip
    obtain ⟨erq1, kq1⟩ := kq1
    subst erq1
    obtain ⟨hp5, kq1⟩ := kq1
    show pmE pg X pg_tyl pg_cl (d + 8) 276 9 [.ref 147, .int x1, .int x2, .int x3, .int x4, pm_dead, pm_dead, pm_dead, pm_dead, pm_dead, pm_dead] [.int 1] (md wc f2 A3) _
    refine pz_if_ne (off := 5) (t := 14) (by decide +kernel) (by decide) rfl kz_1 (fun h6 => ?_) (fun h6 => by omega)
    refine pe_iconstv (n := 0) (v := 0) (by decide +kernel) (by decide +kernel) ?_
    refine pe_iload_n (j := 1) (by decide +kernel) rfl ?_
    refine pi_S (j := 163) (mj := 217) (by decide +kernel) (by decide +kernel) rfl ?_
    show pmE pg X pg_tyl pg_cl (d + 7) 217 0 [.int 0, .int x1] [] (md wc f2 A3) _
    refine pe_iload_n (j := 0) (by decide +kernel) rfl ?_
    refine pz_if_ne (off := 15) (t := 16) (by decide +kernel) (by decide) rfl kz_0 (fun h7 => by omega) (fun h7 => ?_)
    refine pe_sipushv (n := 610) (v := 610) (by decide +kernel) (by decide +kernel) ?_
    refine pe_sipushv (n := 132) (v := 132) (by decide +kernel) (by decide +kernel) ?_
    refine pe_iload_n (j := 1) (by decide +kernel) rfl ?_
    refine pz_mul (by decide +kernel) kz_132 rfl (by omega) (by omega) (fun z8 hz8 => ?_)
    refine pz_add (by decide +kernel) kz_610 hz8 (by omega) (by omega) (fun z9 hz9 => ?_)
    clear hz8
    refine pe_goto (off := 12) (t := 25) (by decide +kernel) (by decide) rfl ?_
    refine pe_iret (by decide +kernel) rfl rfl ⟨rfl, rfl, ?_⟩
    show pmE pg X pg_tyl pg_cl (d + 8) 276 19 [.ref 147, .int x1, .int x2, .int x3, .int x4, pm_dead, pm_dead, pm_dead, pm_dead, pm_dead, pm_dead] [.int z9] (md wc f2 A3) _
    refine pe_istore (j := 5) (ls' := [.ref 147, .int x1, .int x2, .int x3, .int x4, .int z9, pm_dead, pm_dead, pm_dead, pm_dead, pm_dead]) (by decide +kernel) (Nat.le_of_ble_eq_true rfl) rfl ?_
    refine pe_aload_n (j := 0) (by decide +kernel) rfl ?_
    refine pe_iload (j := 5) (by decide +kernel) rfl ?_
    refine pe_iload (j := 4) (by decide +kernel) rfl ?_
    refine pe_iconstv (n := 0) (v := 0) (by decide +kernel) (by decide +kernel) ?_
    refine pi_V (j := 172) (mj := 224) (by decide +kernel) (cll_V (args := [.int 0, .int x4, .int z9]) (n := 3) (by decide +kernel) rfl rfl (md_o hc) (by decide +kernel) (Nat.le_of_ble_eq_true rfl) (Nat.le_of_ble_eq_true rfl)) ?_
    show pmE pg X pg_tyl pg_cl (d + 7) 224 0 [.ref 147, .int z9, .int x4, .int 0] [] (md wc f2 A3) _
    refine pe_aload_n (j := 0) (by decide +kernel) rfl ?_
    refine pe_get (j := 7) (ci := 12) (n := 0) (by decide +kernel) (by decide +kernel) (md_o hc) rfl ?_
    refine pe_iload_n (j := 1) (by decide +kernel) rfl ?_
    refine pe_bipushv (n := 102) (v := 102) (by decide +kernel) (by decide +kernel) ?_
    refine pz_add (by decide +kernel) hz9 kz_102 (by omega) (by omega) (fun z10 hz10 => ?_)
    refine pe_iconstv (n := 4) (v := 4) (by decide +kernel) (by decide +kernel) ?_
    refine pe_iload_n (j := 2) (by decide +kernel) rfl ?_
    refine pz_mul (by decide +kernel) kz_4 rfl (by omega) (by omega) (fun z11 hz11 => ?_)
    refine pz_add (by decide +kernel) hz10 hz11 (by omega) (by omega) (fun z12 hz12 => ?_)
    clear hz10 hz11
    refine pe_iload_n (j := 3) (by decide +kernel) rfl ?_
    refine pz_add (by decide +kernel) hz12 kz_0 (by omega) (by omega) (fun z13 hz13 => ?_)
    clear hz12
    refine pz_iald (by decide +kernel) (md_a148 hc) (mlen_148 hIq1) hz13 (by omega) (by omega) (fun v14 ev14 => ?_)
    have rv14 : 0 ≤ v14.toInt ∧ v14.toInt ≤ 8 := MT_want (mt_148 hIq1 ev14 (by omega)) (by omega)
    rw [show A3 148 = A 148 from (hFq1 148 (by decide) (by decide))] at ev14
    clear hz13
    refine pe_iret (by decide +kernel) rfl rfl ⟨rfl, rfl, ?_⟩
    show pmE pg X pg_tyl pg_cl (d + 8) 276 30 [.ref 147, .int x1, .int x2, .int x3, .int x4, .int z9, pm_dead, pm_dead, pm_dead, pm_dead, pm_dead] [.int v14] (md wc f2 A3) _
    refine pe_istore (j := 6) (ls' := [.ref 147, .int x1, .int x2, .int x3, .int x4, .int z9, .int v14, pm_dead, pm_dead, pm_dead, pm_dead]) (by decide +kernel) (Nat.le_of_ble_eq_true rfl) rfl ?_
    refine pe_aload_n (j := 0) (by decide +kernel) rfl ?_
    refine pe_iload (j := 5) (by decide +kernel) rfl ?_
    refine pe_iload (j := 4) (by decide +kernel) rfl ?_
    refine pe_iconstv (n := 1) (v := 1) (by decide +kernel) (by decide +kernel) ?_
    refine pi_V (j := 172) (mj := 224) (by decide +kernel) (cll_V (args := [.int 1, .int x4, .int z9]) (n := 3) (by decide +kernel) rfl rfl (md_o hc) (by decide +kernel) (Nat.le_of_ble_eq_true rfl) (Nat.le_of_ble_eq_true rfl)) ?_
    show pmE pg X pg_tyl pg_cl (d + 7) 224 0 [.ref 147, .int z9, .int x4, .int 1] [] (md wc f2 A3) _
    refine pe_aload_n (j := 0) (by decide +kernel) rfl ?_
    refine pe_get (j := 7) (ci := 12) (n := 0) (by decide +kernel) (by decide +kernel) (md_o hc) rfl ?_
    refine pe_iload_n (j := 1) (by decide +kernel) rfl ?_
    refine pe_bipushv (n := 102) (v := 102) (by decide +kernel) (by decide +kernel) ?_
    refine pz_add (by decide +kernel) hz9 kz_102 (by omega) (by omega) (fun z15 hz15 => ?_)
    refine pe_iconstv (n := 4) (v := 4) (by decide +kernel) (by decide +kernel) ?_
    refine pe_iload_n (j := 2) (by decide +kernel) rfl ?_
    refine pz_mul (by decide +kernel) kz_4 rfl (by omega) (by omega) (fun z16 hz16 => ?_)
    refine pz_add (by decide +kernel) hz15 hz16 (by omega) (by omega) (fun z17 hz17 => ?_)
    clear hz15 hz16
    refine pe_iload_n (j := 3) (by decide +kernel) rfl ?_
    refine pz_add (by decide +kernel) hz17 kz_1 (by omega) (by omega) (fun z18 hz18 => ?_)
    clear hz17
    refine pz_iald (by decide +kernel) (md_a148 hc) (mlen_148 hIq1) hz18 (by omega) (by omega) (fun v19 ev19 => ?_)
    have rv19 : 0 ≤ v19.toInt ∧ v19.toInt ≤ 8 := MT_want (mt_148 hIq1 ev19 (by omega)) (by omega)
    rw [show A3 148 = A 148 from (hFq1 148 (by decide) (by decide))] at ev19
    clear hz18
    refine pe_iret (by decide +kernel) rfl rfl ⟨rfl, rfl, ?_⟩
    show pmE pg X pg_tyl pg_cl (d + 8) 276 41 [.ref 147, .int x1, .int x2, .int x3, .int x4, .int z9, .int v14, pm_dead, pm_dead, pm_dead, pm_dead] [.int v19] (md wc f2 A3) _
    refine pe_istore (j := 7) (ls' := [.ref 147, .int x1, .int x2, .int x3, .int x4, .int z9, .int v14, .int v19, pm_dead, pm_dead, pm_dead]) (by decide +kernel) (Nat.le_of_ble_eq_true rfl) rfl ?_
    refine pe_aload_n (j := 0) (by decide +kernel) rfl ?_
    refine pe_iload (j := 5) (by decide +kernel) rfl ?_
    refine pe_iload (j := 6) (by decide +kernel) rfl ?_
    refine pe_iload (j := 7) (by decide +kernel) rfl ?_
    refine pz_callV (j := 199) (mj := 231) (by decide +kernel) (cll_V (args := [.int v19, .int v14, .int z9]) (n := 3) (by decide +kernel) rfl rfl (md_o hc) (by decide +kernel) (Nat.le_of_ble_eq_true rfl) (Nat.le_of_ble_eq_true rfl)) (NM_231 hc hIq1 (by omega) (by omega) (by omega) (DF_n0 hp5 (by decide))) (fun q20a q20b q20c q20d hqq20 => ?_)
    obtain ⟨rq20, eq20, hX0q20, kq20⟩ := hqq20
    cases eq20
    refine ⟨rfl, rfl, ?_⟩
    show pmE pg X pg_tyl pg_cl (d + 8) 276 53 [.ref 147, .int x1, .int x2, .int x3, .int x4, .int z9, .int v14, .int v19, pm_dead, pm_dead, pm_dead] [.int rq20] (md wc f2 A3) _
    refine pe_aload_n (j := 0) (by decide +kernel) rfl ?_
    refine pe_iload (j := 5) (by decide +kernel) rfl ?_
    refine pe_iload (j := 4) (by decide +kernel) rfl ?_
    refine pe_iconstv (n := 2) (v := 2) (by decide +kernel) (by decide +kernel) ?_
    refine pi_V (j := 172) (mj := 224) (by decide +kernel) (cll_V (args := [.int 2, .int x4, .int z9]) (n := 3) (by decide +kernel) rfl rfl (md_o hc) (by decide +kernel) (Nat.le_of_ble_eq_true rfl) (Nat.le_of_ble_eq_true rfl)) ?_
    show pmE pg X pg_tyl pg_cl (d + 7) 224 0 [.ref 147, .int z9, .int x4, .int 2] [] (md wc f2 A3) _
    refine pe_aload_n (j := 0) (by decide +kernel) rfl ?_
    refine pe_get (j := 7) (ci := 12) (n := 0) (by decide +kernel) (by decide +kernel) (md_o hc) rfl ?_
    refine pe_iload_n (j := 1) (by decide +kernel) rfl ?_
    refine pe_bipushv (n := 102) (v := 102) (by decide +kernel) (by decide +kernel) ?_
    refine pz_add (by decide +kernel) hz9 kz_102 (by omega) (by omega) (fun z21 hz21 => ?_)
    refine pe_iconstv (n := 4) (v := 4) (by decide +kernel) (by decide +kernel) ?_
    refine pe_iload_n (j := 2) (by decide +kernel) rfl ?_
    refine pz_mul (by decide +kernel) kz_4 rfl (by omega) (by omega) (fun z22 hz22 => ?_)
    refine pz_add (by decide +kernel) hz21 hz22 (by omega) (by omega) (fun z23 hz23 => ?_)
    clear hz21 hz22
    refine pe_iload_n (j := 3) (by decide +kernel) rfl ?_
    refine pz_add (by decide +kernel) hz23 kz_2 (by omega) (by omega) (fun z24 hz24 => ?_)
    clear hz23
    refine pz_iald (by decide +kernel) (md_a148 hc) (mlen_148 hIq1) hz24 (by omega) (by omega) (fun v25 ev25 => ?_)
    have rv25 : 0 ≤ v25.toInt ∧ v25.toInt ≤ 99 := MT_much (mt_148 hIq1 ev25 (by omega)) (by omega)
    rw [show A3 148 = A 148 from (hFq1 148 (by decide) (by decide))] at ev25
    clear hz24
    refine pe_iret (by decide +kernel) rfl rfl ⟨rfl, rfl, ?_⟩
    show pmE pg X pg_tyl pg_cl (d + 8) 276 62 [.ref 147, .int x1, .int x2, .int x3, .int x4, .int z9, .int v14, .int v19, pm_dead, pm_dead, pm_dead] [.int v25, .int rq20] (md wc f2 A3) _
    refine pz_icmp_ge (off := 16) (t := 78) (by decide +kernel) (by decide) rfl rfl rfl (fun h26 => ?_) (fun h26 => ?_)
    · skip
      refine pe_aload_n (j := 0) (by decide +kernel) rfl ?_
      refine pe_iload (j := 5) (by decide +kernel) rfl ?_
      refine pe_iload (j := 4) (by decide +kernel) rfl ?_
      refine pe_iconstv (n := 2) (v := 2) (by decide +kernel) (by decide +kernel) ?_
      refine pi_V (j := 172) (mj := 224) (by decide +kernel) (cll_V (args := [.int 2, .int x4, .int z9]) (n := 3) (by decide +kernel) rfl rfl (md_o hc) (by decide +kernel) (Nat.le_of_ble_eq_true rfl) (Nat.le_of_ble_eq_true rfl)) ?_
      show pmE pg X pg_tyl pg_cl (d + 7) 224 0 [.ref 147, .int z9, .int x4, .int 2] [] (md wc f2 A3) _
      refine pe_aload_n (j := 0) (by decide +kernel) rfl ?_
      refine pe_get (j := 7) (ci := 12) (n := 0) (by decide +kernel) (by decide +kernel) (md_o hc) rfl ?_
      refine pe_iload_n (j := 1) (by decide +kernel) rfl ?_
      refine pe_bipushv (n := 102) (v := 102) (by decide +kernel) (by decide +kernel) ?_
      refine pz_add (by decide +kernel) hz9 kz_102 (by omega) (by omega) (fun z27 hz27 => ?_)
      refine pe_iconstv (n := 4) (v := 4) (by decide +kernel) (by decide +kernel) ?_
      refine pe_iload_n (j := 2) (by decide +kernel) rfl ?_
      refine pz_mul (by decide +kernel) kz_4 rfl (by omega) (by omega) (fun z28 hz28 => ?_)
      refine pz_add (by decide +kernel) hz27 hz28 (by omega) (by omega) (fun z29 hz29 => ?_)
      clear hz27 hz28
      refine pe_iload_n (j := 3) (by decide +kernel) rfl ?_
      refine pz_add (by decide +kernel) hz29 kz_2 (by omega) (by omega) (fun z30 hz30 => ?_)
      clear hz29
      refine pz_iald (by decide +kernel) (md_a148 hc) (mlen_148 hIq1) hz30 (by omega) (by omega) (fun v31 ev31 => ?_)
      rw [show A3 148 = A 148 from (hFq1 148 (by decide) (by decide))] at ev31
      rw [ev31.trans ev25.symm]
      clear ev31 v31
      clear hz30
      refine pe_iret (by decide +kernel) rfl rfl ⟨rfl, rfl, ?_⟩
      show pmE pg X pg_tyl pg_cl (d + 8) 276 87 [.ref 147, .int x1, .int x2, .int x3, .int x4, .int z9, .int v14, .int v19, pm_dead, pm_dead, pm_dead] [.int v25] (md wc f2 A3) _
      refine pe_istore (j := 8) (ls' := [.ref 147, .int x1, .int x2, .int x3, .int x4, .int z9, .int v14, .int v19, .int v25, pm_dead, pm_dead]) (by decide +kernel) (Nat.le_of_ble_eq_true rfl) rfl ?_
      refine pe_aload_n (j := 0) (by decide +kernel) rfl ?_
      refine pz_callV (j := 324) (mj := 277) (by decide +kernel) (cll_V (args := []) (n := 0) (by decide +kernel) rfl rfl (md_o hc) (by decide +kernel) (Nat.le_of_ble_eq_true rfl) (Nat.le_of_ble_eq_true rfl)) (NM_277 hc hIq1) (fun q32a q32b q32c q32d hqq32 => ?_)
      obtain ⟨A33, eq32, hIq32, hFq32, kq32⟩ := hqq32
      cases eq32
      refine ⟨rfl, rfl, ?_⟩
      obtain ⟨hq34, hq35, hq36, hq37, kq32⟩ := kq32
      show pmE pg X pg_tyl pg_cl (d + 8) 276 93 [.ref 147, .int x1, .int x2, .int x3, .int x4, .int z9, .int v14, .int v19, .int v25, pm_dead, pm_dead] [] (md wc f2 A33) _
      refine pe_iconstv (n := 0) (v := 0) (by decide +kernel) (by decide +kernel) ?_
      refine pe_istore (j := 9) (ls' := [.ref 147, .int x1, .int x2, .int x3, .int x4, .int z9, .int v14, .int v19, .int v25, .int 0, pm_dead]) (by decide +kernel) (Nat.le_of_ble_eq_true rfl) rfl ?_
      refine NL_276_96 hc (by omega) (by omega) (by omega) (by omega) (by omega) (by omega) (by omega) (by omega) (by rw [show A33 152 = A3 152 from (hFq32 152 (by decide) (by decide) (by decide) (by decide))]; exact DF_n0 hp5 (by decide)) (fun A38 y39 u40 hIy41 hFA38 gy39 hp42 => ?_) 10 A33 0 (pm_dead) hIq32 (fun k _ => rfl) (by decide +kernel) trivial (by decide +kernel)
      refine pe_aload_n (j := 0) (by decide +kernel) rfl ?_
      refine pe_get (j := 56) (ci := 12) (n := 28) (by decide +kernel) (by decide +kernel) (md_o hc) rfl ?_
      refine pe_iload (j := 7) (by decide +kernel) rfl ?_
      refine pe_iload (j := 8) (by decide +kernel) rfl ?_
      refine mz_st163 (by decide +kernel) hc hIy41 rfl (by omega) (by omega) (fun A43 eA43 hIA43 => ?_)
      have hq44 : (∀ j : Int, (0) ≤ j → j < (10) → (-1000000) ≤ ((A43 163).getD j.toNat 0).toInt ∧ ((A43 163).getD j.toNat 0).toInt ≤ 1000000) := by
        intro j h1 h2
        first
        | (exfalso; omega)
        | (by_cases e : (v19.toInt).toNat = j.toNat
           · rw [upa_at eA43, ← e, gz_eq (by rw [(mlen_163 hIy41)]; omega)]; omega
           · rw [upa_at eA43, gz_ne e, show A38 163 = A33 163 from (hFA38 163 (by decide))]; have hh := hq37 j (by omega) (by omega); omega)
      refine pe_aload_n (j := 0) (by decide +kernel) rfl ?_
      refine pe_get (j := 56) (ci := 12) (n := 28) (by decide +kernel) (by decide +kernel) (md_o hc) rfl ?_
      refine pe_iload (j := 6) (by decide +kernel) rfl ?_
      refine pe_iload (j := 8) (by decide +kernel) rfl ?_
      refine pz_neg (by decide +kernel) rfl (by omega) (by omega) (fun z45 hz45 => ?_)
      refine mz_st163 (by decide +kernel) hc hIA43 rfl (by omega) (by omega) (fun A46 eA46 hIA46 => ?_)
      refine pe_aload_n (j := 0) (by decide +kernel) rfl ?_
      have hq47 : (∀ j : Int, (0) ≤ j → j < (10) → (-1000000) ≤ ((A46 163).getD j.toNat 0).toInt ∧ ((A46 163).getD j.toNat 0).toInt ≤ 1000000) := by
        intro j h1 h2
        first
        | (exfalso; omega)
        | (by_cases e : (v14.toInt).toNat = j.toNat
           · rw [upa_at eA46, ← e, gz_eq (by rw [(mlen_163 hIA43)]; omega)]; omega
           · rw [upa_at eA46, gz_ne e]; have hh := hq44 j (by omega) (by omega); omega)
      refine pz_callV (j := 327) (mj := 278) (by decide +kernel) (cll_V (args := []) (n := 0) (by decide +kernel) rfl rfl (md_o hc) (by decide +kernel) (Nat.le_of_ble_eq_true rfl) (Nat.le_of_ble_eq_true rfl)) (NM_278 hc hIA46 hq47) (fun q48a q48b q48c q48d hqq48 => ?_)
      obtain ⟨A49, rq48, eq48, hIq48, hFq48, kq48⟩ := hqq48
      cases eq48
      refine ⟨rfl, rfl, ?_⟩
      obtain ⟨kfq48, kq48⟩ := kq48
      obtain ⟨hq50, kq48⟩ := kq48
      show pmE pg X pg_tyl pg_cl (d + 8) 276 181 [.ref 147, .int x1, .int x2, .int x3, .int x4, .int z9, .int v14, .int v19, .int v25, .int y39, u40] [.int rq48] (md wc f2 A49) _
      refine pe_istore (j := 9) (ls' := [.ref 147, .int x1, .int x2, .int x3, .int x4, .int z9, .int v14, .int v19, .int v25, .int rq48, u40]) (by decide +kernel) (Nat.le_of_ble_eq_true rfl) rfl ?_
      refine pe_iload (j := 9) (by decide +kernel) rfl ?_
      refine pz_if_eq (off := 8) (t := 193) (by decide +kernel) (by decide) rfl rfl (fun h51 => ?_) (fun h51 => ?_)
      · skip
        refine pe_iload (j := 8) (by decide +kernel) rfl ?_
        refine pe_aload_n (j := 0) (by decide +kernel) rfl ?_
        refine pe_get (j := 56) (ci := 12) (n := 28) (by decide +kernel) (by decide +kernel) (md_o hc) rfl ?_
        refine pe_iload (j := 7) (by decide +kernel) rfl ?_
        refine pz_iald (by decide +kernel) (md_a163 hc) (mlen_163 hIq48) rfl (by omega) (by omega) (fun v52 ev52 => ?_)
        have rq53 := hq50 v19.toInt (by omega) (by omega)
        rw [← ev52] at rq53
        refine pz_sub (by decide +kernel) rfl rfl (by omega) (by omega) (fun z54 hz54 => ?_)
        exact pe_iret (by decide +kernel) rfl rfl ⟨f2, A49, z54, rfl, hIq48, (fun k n14 n15 n16 => (hGq1 k n14 n15 n16)), (fun k n152 n153 n160 n161 n162 n163 n164 => ((hFq48 k n162 n163 n164)).trans ((upa_fr eA46 n163).trans ((upa_fr eA43 n163).trans (((hFA38 k n161)).trans (((hFq32 k n160 n161 n162 n163)).trans ((hFq1 k n152 n153))))))), ⟨(by omega), trivial⟩⟩
      · skip
        refine pe_iload (j := 8) (by decide +kernel) rfl ?_
        refine pe_goto (off := 13) (t := 203) (by decide +kernel) (by decide) rfl ?_
        exact pe_iret (by decide +kernel) rfl rfl ⟨f2, A49, v25, rfl, hIq48, (fun k n14 n15 n16 => (hGq1 k n14 n15 n16)), (fun k n152 n153 n160 n161 n162 n163 n164 => ((hFq48 k n162 n163 n164)).trans ((upa_fr eA46 n163).trans ((upa_fr eA43 n163).trans (((hFA38 k n161)).trans (((hFq32 k n160 n161 n162 n163)).trans ((hFq1 k n152 n153))))))), ⟨(by omega), trivial⟩⟩
    · skip
      refine pe_aload_n (j := 0) (by decide +kernel) rfl ?_
      refine pe_iload (j := 5) (by decide +kernel) rfl ?_
      refine pe_iload (j := 6) (by decide +kernel) rfl ?_
      refine pe_iload (j := 7) (by decide +kernel) rfl ?_
      refine pz_callV (j := 199) (mj := 231) (by decide +kernel) (cll_V (args := [.int v19, .int v14, .int z9]) (n := 3) (by decide +kernel) rfl rfl (md_o hc) (by decide +kernel) (Nat.le_of_ble_eq_true rfl) (Nat.le_of_ble_eq_true rfl)) (NM_231 hc hIq1 (by omega) (by omega) (by omega) (DF_n0 hp5 (by decide))) (fun q55a q55b q55c q55d hqq55 => ?_)
      obtain ⟨rq55, eq55, hX0q55, kq55⟩ := hqq55
      cases eq55
      refine ⟨rfl, rfl, ?_⟩
      show pmE pg X pg_tyl pg_cl (d + 8) 276 75 [.ref 147, .int x1, .int x2, .int x3, .int x4, .int z9, .int v14, .int v19, pm_dead, pm_dead, pm_dead] [.int rq55] (md wc f2 A3) _
      refine pe_goto (off := 12) (t := 87) (by decide +kernel) (by decide) rfl ?_
      refine pe_istore (j := 8) (ls' := [.ref 147, .int x1, .int x2, .int x3, .int x4, .int z9, .int v14, .int v19, .int rq55, pm_dead, pm_dead]) (by decide +kernel) (Nat.le_of_ble_eq_true rfl) rfl ?_
      refine pe_aload_n (j := 0) (by decide +kernel) rfl ?_
      refine pz_callV (j := 324) (mj := 277) (by decide +kernel) (cll_V (args := []) (n := 0) (by decide +kernel) rfl rfl (md_o hc) (by decide +kernel) (Nat.le_of_ble_eq_true rfl) (Nat.le_of_ble_eq_true rfl)) (NM_277 hc hIq1) (fun q56a q56b q56c q56d hqq56 => ?_)
      obtain ⟨A57, eq56, hIq56, hFq56, kq56⟩ := hqq56
      cases eq56
      refine ⟨rfl, rfl, ?_⟩
      obtain ⟨hq58, hq59, hq60, hq61, kq56⟩ := kq56
      show pmE pg X pg_tyl pg_cl (d + 8) 276 93 [.ref 147, .int x1, .int x2, .int x3, .int x4, .int z9, .int v14, .int v19, .int rq55, pm_dead, pm_dead] [] (md wc f2 A57) _
      refine pe_iconstv (n := 0) (v := 0) (by decide +kernel) (by decide +kernel) ?_
      refine pe_istore (j := 9) (ls' := [.ref 147, .int x1, .int x2, .int x3, .int x4, .int z9, .int v14, .int v19, .int rq55, .int 0, pm_dead]) (by decide +kernel) (Nat.le_of_ble_eq_true rfl) rfl ?_
      refine NL_276_96 hc (by omega) (by omega) (by omega) (by omega) (by omega) (by omega) (by omega) (by omega) (by rw [show A57 152 = A3 152 from (hFq56 152 (by decide) (by decide) (by decide) (by decide))]; exact DF_n0 hp5 (by decide)) (fun A62 y63 u64 hIy65 hFA62 gy63 hp66 => ?_) 10 A57 0 (pm_dead) hIq56 (fun k _ => rfl) (by decide +kernel) trivial (by decide +kernel)
      refine pe_aload_n (j := 0) (by decide +kernel) rfl ?_
      refine pe_get (j := 56) (ci := 12) (n := 28) (by decide +kernel) (by decide +kernel) (md_o hc) rfl ?_
      refine pe_iload (j := 7) (by decide +kernel) rfl ?_
      refine pe_iload (j := 8) (by decide +kernel) rfl ?_
      refine mz_st163 (by decide +kernel) hc hIy65 rfl (by omega) (by omega) (fun A67 eA67 hIA67 => ?_)
      have hq68 : (∀ j : Int, (0) ≤ j → j < (10) → (-1000000) ≤ ((A67 163).getD j.toNat 0).toInt ∧ ((A67 163).getD j.toNat 0).toInt ≤ 1000000) := by
        intro j h1 h2
        first
        | (exfalso; omega)
        | (by_cases e : (v19.toInt).toNat = j.toNat
           · rw [upa_at eA67, ← e, gz_eq (by rw [(mlen_163 hIy65)]; omega)]; omega
           · rw [upa_at eA67, gz_ne e, show A62 163 = A57 163 from (hFA62 163 (by decide))]; have hh := hq61 j (by omega) (by omega); omega)
      refine pe_aload_n (j := 0) (by decide +kernel) rfl ?_
      refine pe_get (j := 56) (ci := 12) (n := 28) (by decide +kernel) (by decide +kernel) (md_o hc) rfl ?_
      refine pe_iload (j := 6) (by decide +kernel) rfl ?_
      refine pe_iload (j := 8) (by decide +kernel) rfl ?_
      refine pz_neg (by decide +kernel) rfl (by omega) (by omega) (fun z69 hz69 => ?_)
      refine mz_st163 (by decide +kernel) hc hIA67 rfl (by omega) (by omega) (fun A70 eA70 hIA70 => ?_)
      refine pe_aload_n (j := 0) (by decide +kernel) rfl ?_
      have hq71 : (∀ j : Int, (0) ≤ j → j < (10) → (-1000000) ≤ ((A70 163).getD j.toNat 0).toInt ∧ ((A70 163).getD j.toNat 0).toInt ≤ 1000000) := by
        intro j h1 h2
        first
        | (exfalso; omega)
        | (by_cases e : (v14.toInt).toNat = j.toNat
           · rw [upa_at eA70, ← e, gz_eq (by rw [(mlen_163 hIA67)]; omega)]; omega
           · rw [upa_at eA70, gz_ne e]; have hh := hq68 j (by omega) (by omega); omega)
      refine pz_callV (j := 327) (mj := 278) (by decide +kernel) (cll_V (args := []) (n := 0) (by decide +kernel) rfl rfl (md_o hc) (by decide +kernel) (Nat.le_of_ble_eq_true rfl) (Nat.le_of_ble_eq_true rfl)) (NM_278 hc hIA70 hq71) (fun q72a q72b q72c q72d hqq72 => ?_)
      obtain ⟨A73, rq72, eq72, hIq72, hFq72, kq72⟩ := hqq72
      cases eq72
      refine ⟨rfl, rfl, ?_⟩
      obtain ⟨kfq72, kq72⟩ := kq72
      obtain ⟨hq74, kq72⟩ := kq72
      show pmE pg X pg_tyl pg_cl (d + 8) 276 181 [.ref 147, .int x1, .int x2, .int x3, .int x4, .int z9, .int v14, .int v19, .int rq55, .int y63, u64] [.int rq72] (md wc f2 A73) _
      refine pe_istore (j := 9) (ls' := [.ref 147, .int x1, .int x2, .int x3, .int x4, .int z9, .int v14, .int v19, .int rq55, .int rq72, u64]) (by decide +kernel) (Nat.le_of_ble_eq_true rfl) rfl ?_
      refine pe_iload (j := 9) (by decide +kernel) rfl ?_
      refine pz_if_eq (off := 8) (t := 193) (by decide +kernel) (by decide) rfl rfl (fun h75 => ?_) (fun h75 => ?_)
      · skip
        refine pe_iload (j := 8) (by decide +kernel) rfl ?_
        refine pe_aload_n (j := 0) (by decide +kernel) rfl ?_
        refine pe_get (j := 56) (ci := 12) (n := 28) (by decide +kernel) (by decide +kernel) (md_o hc) rfl ?_
        refine pe_iload (j := 7) (by decide +kernel) rfl ?_
        refine pz_iald (by decide +kernel) (md_a163 hc) (mlen_163 hIq72) rfl (by omega) (by omega) (fun v76 ev76 => ?_)
        have rq77 := hq74 v19.toInt (by omega) (by omega)
        rw [← ev76] at rq77
        refine pz_sub (by decide +kernel) rfl rfl (by omega) (by omega) (fun z78 hz78 => ?_)
        exact pe_iret (by decide +kernel) rfl rfl ⟨f2, A73, z78, rfl, hIq72, (fun k n14 n15 n16 => (hGq1 k n14 n15 n16)), (fun k n152 n153 n160 n161 n162 n163 n164 => ((hFq72 k n162 n163 n164)).trans ((upa_fr eA70 n163).trans ((upa_fr eA67 n163).trans (((hFA62 k n161)).trans (((hFq56 k n160 n161 n162 n163)).trans ((hFq1 k n152 n153))))))), ⟨(by omega), trivial⟩⟩
      · skip
        refine pe_iload (j := 8) (by decide +kernel) rfl ?_
        refine pe_goto (off := 13) (t := 203) (by decide +kernel) (by decide) rfl ?_
        exact pe_iret (by decide +kernel) rfl rfl ⟨f2, A73, rq55, rfl, hIq72, (fun k n14 n15 n16 => (hGq1 k n14 n15 n16)), (fun k n152 n153 n160 n161 n162 n163 n164 => ((hFq72 k n162 n163 n164)).trans ((upa_fr eA70 n163).trans ((upa_fr eA67 n163).trans (((hFA62 k n161)).trans (((hFq56 k n160 n161 n162 n163)).trans ((hFq1 k n152 n153))))))), ⟨(by omega), trivial⟩⟩
end
