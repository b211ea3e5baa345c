set_option maxRecDepth 100000 in
set_option maxHeartbeats 8000000 in
theorem NM_295 {X : pm_X} {d : Nat} {wc : pm_W} {f : Nat → Int32} {A : Nat → List Int32} {x1 x2 : Int32} (hc : wc.length = 147) (hI : MI f A) (gx1 : (0 ≤ x1.toInt ∧ x1.toInt ≤ 8)) (gx2 : (0 ≤ x2.toInt ∧ x2.toInt ≤ 8)) (hpp0 : BN A 20001) : pmE pg X pg_tyl pg_cl (d + 1) 295 0 (pm_ent (pm_max pg 295) [.ref 147, .int x1, .int x2]) [] (md wc f A) (fun q => ∃ (r : Int32), q = (some (.int r), md wc f A, 0, 0) ∧ ((((-1) ≤ r.toInt ∧ r.toInt ≤ 1) ∧ r.toInt = pv A x1.toInt x2.toInt ∧ True))) := by
  show pmE pg X pg_tyl pg_cl (d + 1) 295 0 [.ref 147, .int x1, .int x2, pm_dead, pm_dead] [] (md wc f A) _
  refine pe_aload_n (j := 0) (by decide +kernel) rfl ?_
  refine pe_iload_n (j := 1) (by decide +kernel) rfl ?_
  refine pe_iload_n (j := 2) (by decide +kernel) rfl ?_
  refine pi_V (j := 349) (mj := 296) (by decide +kernel) (cll_V (args := [.int x2, .int x1]) (n := 2) (by decide +kernel) rfl rfl (md_o hc) (by decide +kernel) (Nat.le_of_ble_eq_true rfl) (Nat.le_of_ble_eq_true rfl)) ?_
  show pmE pg X pg_tyl pg_cl (d) 296 0 [.ref 147, .int x1, .int x2] [] (md wc f A) _
  refine pe_aload_n (j := 0) (by decide +kernel) rfl ?_
  refine pe_get (j := 50) (ci := 12) (n := 26) (by decide +kernel) (by decide +kernel) (md_o hc) rfl ?_
  refine pe_bipushv (n := 10) (v := 10) (by decide +kernel) (by decide +kernel) ?_
  refine pe_iload_n (j := 1) (by decide +kernel) rfl ?_
  refine pz_mul (by decide +kernel) kz_10 rfl (by omega) (by omega) (fun z1 hz1 => ?_)
  refine pe_iload_n (j := 2) (by decide +kernel) rfl ?_
  refine pz_add (by decide +kernel) hz1 rfl (by omega) (by omega) (fun z2 hz2 => ?_)
  clear hz1
  refine pz_iald (by decide +kernel) (md_a161 hc) (mlen_161 hI) hz2 (by omega) (by omega) (fun v3 ev3 => ?_)
  clear hz2
  have hb4 := (BN_w hpp0) (((10 * x1.toInt) + x2.toInt)) (by omega) (by omega)
  rw [(show fr (A 161) (((10 * x1.toInt) + x2.toInt)) = v3.toInt from congrArg Int32.toInt ev3.symm)] at hb4
  refine pe_aload_n (j := 0) (by decide +kernel) rfl ?_
  refine pe_get (j := 47) (ci := 12) (n := 25) (by decide +kernel) (by decide +kernel) (md_o hc) rfl ?_
  refine pe_bipushv (n := 10) (v := 10) (by decide +kernel) (by decide +kernel) ?_
  refine pe_iload_n (j := 1) (by decide +kernel) rfl ?_
  refine pz_mul (by decide +kernel) kz_10 rfl (by omega) (by omega) (fun z5 hz5 => ?_)
  refine pe_iload_n (j := 2) (by decide +kernel) rfl ?_
  refine pz_add (by decide +kernel) hz5 rfl (by omega) (by omega) (fun z6 hz6 => ?_)
  clear hz5
  refine pz_iald (by decide +kernel) (md_a160 hc) (mlen_160 hI) hz6 (by omega) (by omega) (fun v7 ev7 => ?_)
  clear hz6
  have hb8 := (BN_l hpp0) (((10 * x1.toInt) + x2.toInt)) (by omega) (by omega)
  rw [(show fr (A 160) (((10 * x1.toInt) + x2.toInt)) = v7.toInt from congrArg Int32.toInt ev7.symm)] at hb8
  refine pz_sub (by decide +kernel) rfl rfl (by omega) (by omega) (fun z9 hz9 => ?_)
  refine pe_aload_n (j := 0) (by decide +kernel) rfl ?_
  refine pe_get (j := 53) (ci := 12) (n := 27) (by decide +kernel) (by decide +kernel) (md_o hc) rfl ?_
  refine pe_bipushv (n := 10) (v := 10) (by decide +kernel) (by decide +kernel) ?_
  refine pe_iload_n (j := 1) (by decide +kernel) rfl ?_
  refine pz_mul (by decide +kernel) kz_10 rfl (by omega) (by omega) (fun z10 hz10 => ?_)
  refine pe_iload_n (j := 2) (by decide +kernel) rfl ?_
  refine pz_add (by decide +kernel) hz10 rfl (by omega) (by omega) (fun z11 hz11 => ?_)
  clear hz10
  refine pz_iald (by decide +kernel) (md_a162 hc) (mlen_162 hI) hz11 (by omega) (by omega) (fun v12 ev12 => ?_)
  clear hz11
  have hb13 := (BN_f hpp0) (((10 * x1.toInt) + x2.toInt)) (by omega) (by omega)
  rw [(show fr (A 162) (((10 * x1.toInt) + x2.toInt)) = v12.toInt from congrArg Int32.toInt ev12.symm)] at hb13
  refine pz_sub (by decide +kernel) hz9 rfl (by omega) (by omega) (fun z14 hz14 => ?_)
  clear hz9
  have hwv15 : wv A x1.toInt x2.toInt = v3.toInt - v7.toInt - v12.toInt := by show fr (A 161) _ - fr (A 160) _ - fr (A 162) _ = _; rw [(show fr (A 161) (((10 * x1.toInt) + x2.toInt)) = v3.toInt from congrArg Int32.toInt ev3.symm), (show fr (A 160) (((10 * x1.toInt) + x2.toInt)) = v7.toInt from congrArg Int32.toInt ev7.symm), (show fr (A 162) (((10 * x1.toInt) + x2.toInt)) = v12.toInt from congrArg Int32.toInt ev12.symm)]
  refine pe_iret (by decide +kernel) rfl rfl ⟨rfl, rfl, ?_⟩
  show pmE pg X pg_tyl pg_cl (d + 1) 295 6 [.ref 147, .int x1, .int x2, pm_dead, pm_dead] [.int z14] (md wc f A) _
  refine pz_if_le (off := 7) (t := 13) (by decide +kernel) (by decide) rfl hz14 (fun h16 => ?_) (fun h16 => ?_)
  · skip
    clear hz14
    refine pe_iconstv (n := 1) (v := 1) (by decide +kernel) (by decide +kernel) ?_
    refine pe_istore_n (j := 3) (ls' := [.ref 147, .int x1, .int x2, .int 1, pm_dead]) (by decide +kernel) (Nat.le_of_ble_eq_true rfl) rfl ?_
    refine pe_aload_n (j := 0) (by decide +kernel) rfl ?_
    refine pe_get (j := 53) (ci := 12) (n := 27) (by decide +kernel) (by decide +kernel) (md_o hc) rfl ?_
    refine pe_bipushv (n := 10) (v := 10) (by decide +kernel) (by decide +kernel) ?_
    refine pe_iload_n (j := 2) (by decide +kernel) rfl ?_
    refine pz_mul (by decide +kernel) kz_10 rfl (by omega) (by omega) (fun z17 hz17 => ?_)
    refine pe_iload_n (j := 1) (by decide +kernel) rfl ?_
    refine pz_add (by decide +kernel) hz17 rfl (by omega) (by omega) (fun z18 hz18 => ?_)
    clear hz17
    refine pz_iald (by decide +kernel) (md_a162 hc) (mlen_162 hI) hz18 (by omega) (by omega) (fun v19 ev19 => ?_)
    clear hz18
    have hb20 := (BN_f hpp0) (((10 * x2.toInt) + x1.toInt)) (by omega) (by omega)
    rw [(show fr (A 162) (((10 * x2.toInt) + x1.toInt)) = v19.toInt from congrArg Int32.toInt ev19.symm)] at hb20
    refine pz_if_ne (off := 7) (t := 33) (by decide +kernel) (by decide) rfl rfl (fun h21 => ?_) (fun h21 => ?_)
    · skip
      refine pe_aload_n (j := 0) (by decide +kernel) rfl ?_
      refine pe_iload_n (j := 2) (by decide +kernel) rfl ?_
      refine pe_iload_n (j := 1) (by decide +kernel) rfl ?_
      refine pi_V (j := 349) (mj := 296) (by decide +kernel) (cll_V (args := [.int x1, .int x2]) (n := 2) (by decide +kernel) rfl rfl (md_o hc) (by decide +kernel) (Nat.le_of_ble_eq_true rfl) (Nat.le_of_ble_eq_true rfl)) ?_
      show pmE pg X pg_tyl pg_cl (d) 296 0 [.ref 147, .int x2, .int x1] [] (md wc f A) _
      refine pe_aload_n (j := 0) (by decide +kernel) rfl ?_
      refine pe_get (j := 50) (ci := 12) (n := 26) (by decide +kernel) (by decide +kernel) (md_o hc) rfl ?_
      refine pe_bipushv (n := 10) (v := 10) (by decide +kernel) (by decide +kernel) ?_
      refine pe_iload_n (j := 1) (by decide +kernel) rfl ?_
      refine pz_mul (by decide +kernel) kz_10 rfl (by omega) (by omega) (fun z22 hz22 => ?_)
      refine pe_iload_n (j := 2) (by decide +kernel) rfl ?_
      refine pz_add (by decide +kernel) hz22 rfl (by omega) (by omega) (fun z23 hz23 => ?_)
      clear hz22
      refine pz_iald (by decide +kernel) (md_a161 hc) (mlen_161 hI) hz23 (by omega) (by omega) (fun v24 ev24 => ?_)
      clear hz23
      have hb25 := (BN_w hpp0) (((10 * x2.toInt) + x1.toInt)) (by omega) (by omega)
      rw [(show fr (A 161) (((10 * x2.toInt) + x1.toInt)) = v24.toInt from congrArg Int32.toInt ev24.symm)] at hb25
      refine pe_aload_n (j := 0) (by decide +kernel) rfl ?_
      refine pe_get (j := 47) (ci := 12) (n := 25) (by decide +kernel) (by decide +kernel) (md_o hc) rfl ?_
      refine pe_bipushv (n := 10) (v := 10) (by decide +kernel) (by decide +kernel) ?_
      refine pe_iload_n (j := 1) (by decide +kernel) rfl ?_
      refine pz_mul (by decide +kernel) kz_10 rfl (by omega) (by omega) (fun z26 hz26 => ?_)
      refine pe_iload_n (j := 2) (by decide +kernel) rfl ?_
      refine pz_add (by decide +kernel) hz26 rfl (by omega) (by omega) (fun z27 hz27 => ?_)
      clear hz26
      refine pz_iald (by decide +kernel) (md_a160 hc) (mlen_160 hI) hz27 (by omega) (by omega) (fun v28 ev28 => ?_)
      clear hz27
      have hb29 := (BN_l hpp0) (((10 * x2.toInt) + x1.toInt)) (by omega) (by omega)
      rw [(show fr (A 160) (((10 * x2.toInt) + x1.toInt)) = v28.toInt from congrArg Int32.toInt ev28.symm)] at hb29
      refine pz_sub (by decide +kernel) rfl rfl (by omega) (by omega) (fun z30 hz30 => ?_)
      refine pe_aload_n (j := 0) (by decide +kernel) rfl ?_
      refine pe_get (j := 53) (ci := 12) (n := 27) (by decide +kernel) (by decide +kernel) (md_o hc) rfl ?_
      refine pe_bipushv (n := 10) (v := 10) (by decide +kernel) (by decide +kernel) ?_
      refine pe_iload_n (j := 1) (by decide +kernel) rfl ?_
      refine pz_mul (by decide +kernel) kz_10 rfl (by omega) (by omega) (fun z31 hz31 => ?_)
      refine pe_iload_n (j := 2) (by decide +kernel) rfl ?_
      refine pz_add (by decide +kernel) hz31 rfl (by omega) (by omega) (fun z32 hz32 => ?_)
      clear hz31
      refine pz_iald (by decide +kernel) (md_a162 hc) (mlen_162 hI) hz32 (by omega) (by omega) (fun v33 ev33 => ?_)
      rw [ev33.trans ev19.symm]
      clear ev33 v33
      clear hz32
      have hb34 := (BN_f hpp0) (((10 * x2.toInt) + x1.toInt)) (by omega) (by omega)
      rw [(show fr (A 162) (((10 * x2.toInt) + x1.toInt)) = v19.toInt from congrArg Int32.toInt ev19.symm)] at hb34
      refine pz_sub (by decide +kernel) hz30 rfl (by omega) (by omega) (fun z35 hz35 => ?_)
      clear hz30
      have hwv36 : wv A x2.toInt x1.toInt = v24.toInt - v28.toInt - v19.toInt := by show fr (A 161) _ - fr (A 160) _ - fr (A 162) _ = _; rw [(show fr (A 161) (((10 * x2.toInt) + x1.toInt)) = v24.toInt from congrArg Int32.toInt ev24.symm), (show fr (A 160) (((10 * x2.toInt) + x1.toInt)) = v28.toInt from congrArg Int32.toInt ev28.symm), (show fr (A 162) (((10 * x2.toInt) + x1.toInt)) = v19.toInt from congrArg Int32.toInt ev19.symm)]
      refine pe_iret (by decide +kernel) rfl rfl ⟨rfl, rfl, ?_⟩
      show pmE pg X pg_tyl pg_cl (d + 1) 295 39 [.ref 147, .int x1, .int x2, .int 1, pm_dead] [.int z35] (md wc f A) _
      refine pz_if_ge (off := 7) (t := 46) (by decide +kernel) (by decide) rfl hz35 (fun h37 => ?_) (fun h37 => ?_)
      · skip
        clear hz35
        refine pe_iconstv (n := 0) (v := 0) (by decide +kernel) (by decide +kernel) ?_
        refine pe_istore (j := 4) (ls' := [.ref 147, .int x1, .int x2, .int 1, .int 0]) (by decide +kernel) (Nat.le_of_ble_eq_true rfl) rfl ?_
        refine pe_iload (j := 4) (by decide +kernel) rfl ?_
        refine pe_iload_n (j := 3) (by decide +kernel) rfl ?_
        refine pz_icmp_ge (off := 8) (t := 60) (by decide +kernel) (by decide) rfl kz_0 kz_1 (fun h38 => by omega) (fun h38 => ?_)
        refine pe_iload (j := 4) (by decide +kernel) rfl ?_
        refine pe_goto (off := 4) (t := 61) (by decide +kernel) (by decide) rfl ?_
        have hps39 := prc_spec (wv A x1.toInt x2.toInt) (fr (A 162) (10 * x2.toInt + x1.toInt)) (wv A x2.toInt x1.toInt)
        rw [(show fr (A 162) (((10 * x2.toInt) + x1.toInt)) = v19.toInt from congrArg Int32.toInt ev19.symm)] at hps39
        exact pe_iret (by decide +kernel) rfl rfl ⟨0, rfl, ⟨(by decide +kernel), (by show _ = prc _ _ _; rw [(show fr (A 162) (((10 * x2.toInt) + x1.toInt)) = v19.toInt from congrArg Int32.toInt ev19.symm), kz_0]; omega), trivial⟩⟩
      · skip
        clear hz35
        refine pe_iconstv (n := (-1)) (v := (-1)) (by decide +kernel) (by decide +kernel) ?_
        refine pe_goto (off := 4) (t := 47) (by decide +kernel) (by decide) rfl ?_
        refine pe_istore (j := 4) (ls' := [.ref 147, .int x1, .int x2, .int 1, .int (-1)]) (by decide +kernel) (Nat.le_of_ble_eq_true rfl) rfl ?_
        refine pe_iload (j := 4) (by decide +kernel) rfl ?_
        refine pe_iload_n (j := 3) (by decide +kernel) rfl ?_
        refine pz_icmp_ge (off := 8) (t := 60) (by decide +kernel) (by decide) rfl kz_m1 kz_1 (fun h40 => by omega) (fun h40 => ?_)
        refine pe_iload (j := 4) (by decide +kernel) rfl ?_
        refine pe_goto (off := 4) (t := 61) (by decide +kernel) (by decide) rfl ?_
        have hps41 := prc_spec (wv A x1.toInt x2.toInt) (fr (A 162) (10 * x2.toInt + x1.toInt)) (wv A x2.toInt x1.toInt)
        rw [(show fr (A 162) (((10 * x2.toInt) + x1.toInt)) = v19.toInt from congrArg Int32.toInt ev19.symm)] at hps41
        exact pe_iret (by decide +kernel) rfl rfl ⟨(-1), rfl, ⟨(by decide +kernel), (by show _ = prc _ _ _; rw [(show fr (A 162) (((10 * x2.toInt) + x1.toInt)) = v19.toInt from congrArg Int32.toInt ev19.symm), kz_m1]; omega), trivial⟩⟩
    · skip
      refine pe_iconstv (n := 2) (v := 2) (by decide +kernel) (by decide +kernel) ?_
      refine pe_goto (off := 17) (t := 47) (by decide +kernel) (by decide) rfl ?_
      refine pe_istore (j := 4) (ls' := [.ref 147, .int x1, .int x2, .int 1, .int 2]) (by decide +kernel) (Nat.le_of_ble_eq_true rfl) rfl ?_
      refine pe_iload (j := 4) (by decide +kernel) rfl ?_
      refine pe_iload_n (j := 3) (by decide +kernel) rfl ?_
      refine pz_icmp_ge (off := 8) (t := 60) (by decide +kernel) (by decide) rfl kz_2 kz_1 (fun h42 => ?_) (fun h42 => by omega)
      refine pe_iload_n (j := 3) (by decide +kernel) rfl ?_
      have hps43 := prc_spec (wv A x1.toInt x2.toInt) (fr (A 162) (10 * x2.toInt + x1.toInt)) (wv A x2.toInt x1.toInt)
      rw [(show fr (A 162) (((10 * x2.toInt) + x1.toInt)) = v19.toInt from congrArg Int32.toInt ev19.symm)] at hps43
      exact pe_iret (by decide +kernel) rfl rfl ⟨1, rfl, ⟨(by decide +kernel), (by show _ = prc _ _ _; rw [(show fr (A 162) (((10 * x2.toInt) + x1.toInt)) = v19.toInt from congrArg Int32.toInt ev19.symm), kz_1]; omega), trivial⟩⟩
  · skip
    clear hz14
    refine pe_iconstv (n := 0) (v := 0) (by decide +kernel) (by decide +kernel) ?_
    refine pe_goto (off := 4) (t := 14) (by decide +kernel) (by decide) rfl ?_
    refine pe_istore_n (j := 3) (ls' := [.ref 147, .int x1, .int x2, .int 0, pm_dead]) (by decide +kernel) (Nat.le_of_ble_eq_true rfl) rfl ?_
    refine pe_aload_n (j := 0) (by decide +kernel) rfl ?_
    refine pe_get (j := 53) (ci := 12) (n := 27) (by decide +kernel) (by decide +kernel) (md_o hc) rfl ?_
    refine pe_bipushv (n := 10) (v := 10) (by decide +kernel) (by decide +kernel) ?_
    refine pe_iload_n (j := 2) (by decide +kernel) rfl ?_
    refine pz_mul (by decide +kernel) kz_10 rfl (by omega) (by omega) (fun z44 hz44 => ?_)
    refine pe_iload_n (j := 1) (by decide +kernel) rfl ?_
    refine pz_add (by decide +kernel) hz44 rfl (by omega) (by omega) (fun z45 hz45 => ?_)
    clear hz44
    refine pz_iald (by decide +kernel) (md_a162 hc) (mlen_162 hI) hz45 (by omega) (by omega) (fun v46 ev46 => ?_)
    clear hz45
    have hb47 := (BN_f hpp0) (((10 * x2.toInt) + x1.toInt)) (by omega) (by omega)
    rw [(show fr (A 162) (((10 * x2.toInt) + x1.toInt)) = v46.toInt from congrArg Int32.toInt ev46.symm)] at hb47
    refine pz_if_ne (off := 7) (t := 33) (by decide +kernel) (by decide) rfl rfl (fun h48 => ?_) (fun h48 => ?_)
    · skip
      refine pe_aload_n (j := 0) (by decide +kernel) rfl ?_
      refine pe_iload_n (j := 2) (by decide +kernel) rfl ?_
      refine pe_iload_n (j := 1) (by decide +kernel) rfl ?_
      refine pi_V (j := 349) (mj := 296) (by decide +kernel) (cll_V (args := [.int x1, .int x2]) (n := 2) (by decide +kernel) rfl rfl (md_o hc) (by decide +kernel) (Nat.le_of_ble_eq_true rfl) (Nat.le_of_ble_eq_true rfl)) ?_
      show pmE pg X pg_tyl pg_cl (d) 296 0 [.ref 147, .int x2, .int x1] [] (md wc f A) _
      refine pe_aload_n (j := 0) (by decide +kernel) rfl ?_
      refine pe_get (j := 50) (ci := 12) (n := 26) (by decide +kernel) (by decide +kernel) (md_o hc) rfl ?_
      refine pe_bipushv (n := 10) (v := 10) (by decide +kernel) (by decide +kernel) ?_
      refine pe_iload_n (j := 1) (by decide +kernel) rfl ?_
      refine pz_mul (by decide +kernel) kz_10 rfl (by omega) (by omega) (fun z49 hz49 => ?_)
      refine pe_iload_n (j := 2) (by decide +kernel) rfl ?_
      refine pz_add (by decide +kernel) hz49 rfl (by omega) (by omega) (fun z50 hz50 => ?_)
      clear hz49
      refine pz_iald (by decide +kernel) (md_a161 hc) (mlen_161 hI) hz50 (by omega) (by omega) (fun v51 ev51 => ?_)
      clear hz50
      have hb52 := (BN_w hpp0) (((10 * x2.toInt) + x1.toInt)) (by omega) (by omega)
      rw [(show fr (A 161) (((10 * x2.toInt) + x1.toInt)) = v51.toInt from congrArg Int32.toInt ev51.symm)] at hb52
      refine pe_aload_n (j := 0) (by decide +kernel) rfl ?_
      refine pe_get (j := 47) (ci := 12) (n := 25) (by decide +kernel) (by decide +kernel) (md_o hc) rfl ?_
      refine pe_bipushv (n := 10) (v := 10) (by decide +kernel) (by decide +kernel) ?_
      refine pe_iload_n (j := 1) (by decide +kernel) rfl ?_
      refine pz_mul (by decide +kernel) kz_10 rfl (by omega) (by omega) (fun z53 hz53 => ?_)
      refine pe_iload_n (j := 2) (by decide +kernel) rfl ?_
      refine pz_add (by decide +kernel) hz53 rfl (by omega) (by omega) (fun z54 hz54 => ?_)
      clear hz53
      refine pz_iald (by decide +kernel) (md_a160 hc) (mlen_160 hI) hz54 (by omega) (by omega) (fun v55 ev55 => ?_)
      clear hz54
      have hb56 := (BN_l hpp0) (((10 * x2.toInt) + x1.toInt)) (by omega) (by omega)
      rw [(show fr (A 160) (((10 * x2.toInt) + x1.toInt)) = v55.toInt from congrArg Int32.toInt ev55.symm)] at hb56
      refine pz_sub (by decide +kernel) rfl rfl (by omega) (by omega) (fun z57 hz57 => ?_)
      refine pe_aload_n (j := 0) (by decide +kernel) rfl ?_
      refine pe_get (j := 53) (ci := 12) (n := 27) (by decide +kernel) (by decide +kernel) (md_o hc) rfl ?_
      refine pe_bipushv (n := 10) (v := 10) (by decide +kernel) (by decide +kernel) ?_
      refine pe_iload_n (j := 1) (by decide +kernel) rfl ?_
      refine pz_mul (by decide +kernel) kz_10 rfl (by omega) (by omega) (fun z58 hz58 => ?_)
      refine pe_iload_n (j := 2) (by decide +kernel) rfl ?_
      refine pz_add (by decide +kernel) hz58 rfl (by omega) (by omega) (fun z59 hz59 => ?_)
      clear hz58
      refine pz_iald (by decide +kernel) (md_a162 hc) (mlen_162 hI) hz59 (by omega) (by omega) (fun v60 ev60 => ?_)
      rw [ev60.trans ev46.symm]
      clear ev60 v60
      clear hz59
      have hb61 := (BN_f hpp0) (((10 * x2.toInt) + x1.toInt)) (by omega) (by omega)
      rw [(show fr (A 162) (((10 * x2.toInt) + x1.toInt)) = v46.toInt from congrArg Int32.toInt ev46.symm)] at hb61
      refine pz_sub (by decide +kernel) hz57 rfl (by omega) (by omega) (fun z62 hz62 => ?_)
      clear hz57
      have hwv63 : wv A x2.toInt x1.toInt = v51.toInt - v55.toInt - v46.toInt := by show fr (A 161) _ - fr (A 160) _ - fr (A 162) _ = _; rw [(show fr (A 161) (((10 * x2.toInt) + x1.toInt)) = v51.toInt from congrArg Int32.toInt ev51.symm), (show fr (A 160) (((10 * x2.toInt) + x1.toInt)) = v55.toInt from congrArg Int32.toInt ev55.symm), (show fr (A 162) (((10 * x2.toInt) + x1.toInt)) = v46.toInt from congrArg Int32.toInt ev46.symm)]
      refine pe_iret (by decide +kernel) rfl rfl ⟨rfl, rfl, ?_⟩
      show pmE pg X pg_tyl pg_cl (d + 1) 295 39 [.ref 147, .int x1, .int x2, .int 0, pm_dead] [.int z62] (md wc f A) _
      refine pz_if_ge (off := 7) (t := 46) (by decide +kernel) (by decide) rfl hz62 (fun h64 => ?_) (fun h64 => ?_)
      · skip
        clear hz62
        refine pe_iconstv (n := 0) (v := 0) (by decide +kernel) (by decide +kernel) ?_
        refine pe_istore (j := 4) (ls' := [.ref 147, .int x1, .int x2, .int 0, .int 0]) (by decide +kernel) (Nat.le_of_ble_eq_true rfl) rfl ?_
        refine pe_iload (j := 4) (by decide +kernel) rfl ?_
        refine pe_iload_n (j := 3) (by decide +kernel) rfl ?_
        refine pz_icmp_ge (off := 8) (t := 60) (by decide +kernel) (by decide) rfl kz_0 kz_0 (fun h65 => ?_) (fun h65 => by omega)
        refine pe_iload_n (j := 3) (by decide +kernel) rfl ?_
        have hps66 := prc_spec (wv A x1.toInt x2.toInt) (fr (A 162) (10 * x2.toInt + x1.toInt)) (wv A x2.toInt x1.toInt)
        rw [(show fr (A 162) (((10 * x2.toInt) + x1.toInt)) = v46.toInt from congrArg Int32.toInt ev46.symm)] at hps66
        exact pe_iret (by decide +kernel) rfl rfl ⟨0, rfl, ⟨(by decide +kernel), (by show _ = prc _ _ _; rw [(show fr (A 162) (((10 * x2.toInt) + x1.toInt)) = v46.toInt from congrArg Int32.toInt ev46.symm), kz_0]; omega), trivial⟩⟩
      · skip
        clear hz62
        refine pe_iconstv (n := (-1)) (v := (-1)) (by decide +kernel) (by decide +kernel) ?_
        refine pe_goto (off := 4) (t := 47) (by decide +kernel) (by decide) rfl ?_
        refine pe_istore (j := 4) (ls' := [.ref 147, .int x1, .int x2, .int 0, .int (-1)]) (by decide +kernel) (Nat.le_of_ble_eq_true rfl) rfl ?_
        refine pe_iload (j := 4) (by decide +kernel) rfl ?_
        refine pe_iload_n (j := 3) (by decide +kernel) rfl ?_
        refine pz_icmp_ge (off := 8) (t := 60) (by decide +kernel) (by decide) rfl kz_m1 kz_0 (fun h67 => by omega) (fun h67 => ?_)
        refine pe_iload (j := 4) (by decide +kernel) rfl ?_
        refine pe_goto (off := 4) (t := 61) (by decide +kernel) (by decide) rfl ?_
        have hps68 := prc_spec (wv A x1.toInt x2.toInt) (fr (A 162) (10 * x2.toInt + x1.toInt)) (wv A x2.toInt x1.toInt)
        rw [(show fr (A 162) (((10 * x2.toInt) + x1.toInt)) = v46.toInt from congrArg Int32.toInt ev46.symm)] at hps68
        exact pe_iret (by decide +kernel) rfl rfl ⟨(-1), rfl, ⟨(by decide +kernel), (by show _ = prc _ _ _; rw [(show fr (A 162) (((10 * x2.toInt) + x1.toInt)) = v46.toInt from congrArg Int32.toInt ev46.symm), kz_m1]; omega), trivial⟩⟩
    · skip
      refine pe_iconstv (n := 2) (v := 2) (by decide +kernel) (by decide +kernel) ?_
      refine pe_goto (off := 17) (t := 47) (by decide +kernel) (by decide) rfl ?_
      refine pe_istore (j := 4) (ls' := [.ref 147, .int x1, .int x2, .int 0, .int 2]) (by decide +kernel) (Nat.le_of_ble_eq_true rfl) rfl ?_
      refine pe_iload (j := 4) (by decide +kernel) rfl ?_
      refine pe_iload_n (j := 3) (by decide +kernel) rfl ?_
      refine pz_icmp_ge (off := 8) (t := 60) (by decide +kernel) (by decide) rfl kz_2 kz_0 (fun h69 => ?_) (fun h69 => by omega)
      refine pe_iload_n (j := 3) (by decide +kernel) rfl ?_
      have hps70 := prc_spec (wv A x1.toInt x2.toInt) (fr (A 162) (10 * x2.toInt + x1.toInt)) (wv A x2.toInt x1.toInt)
      rw [(show fr (A 162) (((10 * x2.toInt) + x1.toInt)) = v46.toInt from congrArg Int32.toInt ev46.symm)] at hps70
      exact pe_iret (by decide +kernel) rfl rfl ⟨0, rfl, ⟨(by decide +kernel), (by show _ = prc _ _ _; rw [(show fr (A 162) (((10 * x2.toInt) + x1.toInt)) = v46.toInt from congrArg Int32.toInt ev46.symm), kz_0]; omega), trivial⟩⟩
