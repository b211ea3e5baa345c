set_option maxRecDepth 100000 in
set_option maxHeartbeats 8000000 in
theorem NL_215_183 {X : pm_X} {d : Nat} {wc : pm_W} {Q : pm_R → Prop} {f : Nat → Int32} {A0 : Nat → List Int32} {x1 x2 : Int32} {n : Int} {kd : Int} (hc : wc.length = 147) (gx2 : (0 ≤ x2.toInt ∧ x2.toInt ≤ 16)) (hpk0 : 0 ≤ n ∧ n ≤ 29) (k_219_0 : ∀ (A' : Nat → List Int32) (y3 : Int32), MI f A' → (∀ k : Nat, k ≠ 150 → A' k = A0 k) → (8 ≤ y3.toInt ∧ y3.toInt ≤ 8) → TQ (A' 150) (A0 151) n y3.toInt kd → pmE pg X pg_tyl pg_cl (d + 5) 215 219 [.ref 147, .int x1, .int x2, .int y3] [] (md wc f A') Q) : ∀ (m : Nat) (A : Nat → List Int32) (x3 : Int32), MI f A → (∀ k : Nat, k ≠ 150 → A k = A0 k) → (0 ≤ x3.toInt ∧ x3.toInt ≤ 8) → TQ (A 150) (A0 151) n x3.toInt kd → 8 - x3.toInt < (m : Int) → pmE pg X pg_tyl pg_cl (d + 5) 215 183 [.ref 147, .int x1, .int x2, .int x3] [] (md wc f A) Q := by
  intro m
  induction m with
  | zero =>
    intro A x3 hI hF gx3 hpi0 hm
    exfalso
    have l0 := zi_lo x3
    have u0 := zi_hi x3
    omega
  | succ m ih =>
    intro A x3 hI hF gx3 hpi0 hm
    refine pe_iload_n (j := 3) (by decide +kernel) rfl ?_
    refine pe_bipushv (n := 8) (v := 8) (by decide +kernel) (by decide +kernel) ?_
    refine pz_icmp_ge (off := 33) (t := 219) (by decide +kernel) (by decide) rfl rfl kz_8 (fun h1 => ?_) (fun h1 => ?_)
    · skip
      exact k_219_0 A x3 hI (fun k n150 => (hF k n150)) (by omega) hpi0
    · skip
      refine pe_aload_n (j := 0) (by decide +kernel) rfl ?_
      refine pe_get (j := 17) (ci := 12) (n := 10) (by decide +kernel) (by decide +kernel) (md_o hc) rfl ?_
      refine pe_iconstv (n := 2) (v := 2) (by decide +kernel) (by decide +kernel) ?_
      refine pe_bipushv (n := 9) (v := 9) (by decide +kernel) (by decide +kernel) ?_
      refine pe_aload_n (j := 0) (by decide +kernel) rfl ?_
      refine pe_get (j := 17) (ci := 12) (n := 10) (by decide +kernel) (by decide +kernel) (md_o hc) rfl ?_
      refine pe_iconstv (n := 0) (v := 0) (by decide +kernel) (by decide +kernel) ?_
      refine pz_iald (by decide +kernel) (md_a150 hc) (mlen_150 hI) kz_0 (by omega) (by omega) (fun v2 ev2 => ?_)
      have hn0 : v2.toInt = n := by rw [← (show fr (A 150) (0) = v2.toInt from congrArg Int32.toInt ev2.symm)]; exact hpi0.2.1
      have hn1 := hpk0
      refine pz_mul (by decide +kernel) kz_9 rfl (by omega) (by omega) (fun z3 hz3 => ?_)
      refine pz_add (by decide +kernel) kz_2 hz3 (by omega) (by omega) (fun z4 hz4 => ?_)
      clear hz3
      refine pe_iload_n (j := 3) (by decide +kernel) rfl ?_
      refine pz_add (by decide +kernel) hz4 rfl (by omega) (by omega) (fun z5 hz5 => ?_)
      clear hz4
      refine pe_aload_n (j := 0) (by decide +kernel) rfl ?_
      refine pe_get (j := 20) (ci := 12) (n := 11) (by decide +kernel) (by decide +kernel) (md_o hc) rfl ?_
      refine pe_iload_n (j := 3) (by decide +kernel) rfl ?_
      refine pz_iald (by decide +kernel) (md_a151 hc) (mlen_151 hI) rfl (by omega) (by omega) (fun v6 ev6 => ?_)
      rw [show A 151 = A0 151 from (hF 151 (by decide))] at ev6
      refine mz_st150 (by decide +kernel) hc hI hz5 (by omega) (by omega) (fun A7 eA7 hIA7 => ?_)
      refine pz_iinc (j := 3) (n := 1) (by decide +kernel) rfl rfl (by decide +kernel) (by omega) (by omega) (fun z8 hz8 => ?_)
      show pmE pg X pg_tyl pg_cl (d + 5) 215 216 [.ref 147, .int x1, .int x2, .int z8] [] (md wc f A7) _
      refine pe_goto (off := (-33)) (t := 183) (by decide +kernel) (by decide) rfl ?_
      exact ih A7 z8 hIA7 (fun k n150 => (upa_fr eA7 n150).trans ((hF k n150))) (by omega) (by rw [hz8, upa_at eA7]; have h := TQ_step (v := v6) hpi0 hpk0.1 hpk0.2 (by omega) (by omega) (mlen_150 hI) (by rw [(show fr (A0 151) (x3.toInt) = v6.toInt from congrArg Int32.toInt ev6.symm)]); rw [show (2 + 9 * n + x3.toInt) = ((2 + (9 * v2.toInt)) + x3.toInt) by rw [← hn0]] at h; exact h) (by omega)
set_option maxRecDepth 100000 in
set_option maxHeartbeats 8000000 in
theorem NL_215_33 {X : pm_X} {d : Nat} {wc : pm_W} {Q : pm_R → Prop} {f : Nat → Int32} {A0 : Nat → List Int32} {x1 x2 : Int32} (hc : wc.length = 147) (gx2 : (0 ≤ x2.toInt ∧ x2.toInt ≤ 16)) (k_52_0 : ∀ (A' : Nat → List Int32) (y3 : Int32), MI f A' → (∀ k : Nat, k ≠ 151 → A' k = A0 k) → (8 ≤ y3.toInt ∧ y3.toInt ≤ 8) → pmE pg X pg_tyl pg_cl (d + 5) 215 52 [.ref 147, .int x1, .int x2, .int y3] [] (md wc f A') Q) : ∀ (m : Nat) (A : Nat → List Int32) (x3 : Int32), MI f A → (∀ k : Nat, k ≠ 151 → A k = A0 k) → (0 ≤ x3.toInt ∧ x3.toInt ≤ 8) → 8 - x3.toInt < (m : Int) → pmE pg X pg_tyl pg_cl (d + 5) 215 33 [.ref 147, .int x1, .int x2, .int x3] [] (md wc f A) Q := by
  intro m
  induction m with
  | zero =>
    intro A x3 hI hF gx3 hm
    exfalso
    have l0 := zi_lo x3
    have u0 := zi_hi x3
    omega
  | succ m ih =>
    intro A x3 hI hF gx3 hm
    refine pe_iload_n (j := 3) (by decide +kernel) rfl ?_
    refine pe_bipushv (n := 8) (v := 8) (by decide +kernel) (by decide +kernel) ?_
    refine pz_icmp_ge (off := 16) (t := 52) (by decide +kernel) (by decide) rfl rfl kz_8 (fun h1 => ?_) (fun h1 => ?_)
    · skip
      exact k_52_0 A x3 hI (fun k n151 => (hF k n151)) (by omega)
    · skip
      refine pe_aload_n (j := 0) (by decide +kernel) rfl ?_
      refine pe_get (j := 20) (ci := 12) (n := 11) (by decide +kernel) (by decide +kernel) (md_o hc) rfl ?_
      refine pe_iload_n (j := 3) (by decide +kernel) rfl ?_
      refine pe_iconstv (n := (-1)) (v := (-1)) (by decide +kernel) (by decide +kernel) ?_
      refine mz_st151 (by decide +kernel) hc hI rfl (by omega) (by omega) (fun A2 eA2 hIA2 => ?_)
      refine pz_iinc (j := 3) (n := 1) (by decide +kernel) rfl rfl (by decide +kernel) (by omega) (by omega) (fun z3 hz3 => ?_)
      show pmE pg X pg_tyl pg_cl (d + 5) 215 49 [.ref 147, .int x1, .int x2, .int z3] [] (md wc f A2) _
      refine pe_goto (off := (-16)) (t := 33) (by decide +kernel) (by decide) rfl ?_
      exact ih A2 z3 hIA2 (fun k n151 => (upa_fr eA2 n151).trans ((hF k n151))) (by omega) (by omega)
set_option maxRecDepth 100000 in
set_option maxHeartbeats 8000000 in
theorem NM_215 {X : pm_X} {d : Nat} {wc : pm_W} {f : Nat → Int32} {A : Nat → List Int32} (hc : wc.length = 147) (hI : MI f A) (hpp0 : JJ f A) (hpp1 : TR (A 150) (fr (A 148) 3)) (hpp2 : fr (A 150) 0 ≤ 9000) : pmE pg X pg_tyl pg_cl (d + 5) 215 0 (pm_ent (pm_max pg 215) [.ref 147]) [] (md wc f A) (fun q => ∃ (f' : Nat → Int32) (A' : Nat → List Int32), q = (none, md wc f' A', 0, 0) ∧ MI f' A' ∧ (∀ k : Nat, k ≠ 3 → k ≠ 4 → k ≠ 5 → k ≠ 6 → k ≠ 7 → k ≠ 8 → k ≠ 9 → f' k = f k) ∧ (∀ k : Nat, k ≠ 148 → k ≠ 150 → k ≠ 151 → A' k = A k) ∧ ((TX f f' A A' ∧ TS f f' ∧ TR (A' 150) (fr (A' 148) 3) ∧ fr (A' 150) 0 ≤ fr (A 150) 0 + 1 ∧ True))) := by
  show pmE pg X pg_tyl pg_cl (d + 5) 215 0 [.ref 147, pm_dead, pm_dead, pm_dead] [] (md wc f A) _
  refine pe_aload_n (j := 0) (by decide +kernel) rfl ?_
  refine pe_get (j := 90) (ci := 12) (n := 4) (by decide +kernel) (by decide +kernel) (md_o hc) rfl ?_
  refine pe_istore_n (j := 1) (ls' := [.ref 147, .int (f 4), pm_dead, pm_dead]) (by decide +kernel) (Nat.le_of_ble_eq_true rfl) rfl ?_
  refine pe_aload_n (j := 0) (by decide +kernel) rfl ?_
  refine pe_get (j := 17) (ci := 12) (n := 10) (by decide +kernel) (by decide +kernel) (md_o hc) rfl ?_
  refine pe_iconstv (n := 0) (v := 0) (by decide +kernel) (by decide +kernel) ?_
  refine pz_iald (by decide +kernel) (md_a150 hc) (mlen_150 hI) kz_0 (by omega) (by omega) (fun v1 ev1 => ?_)
  have hb2 := hpp1.1.1
  have hb3 := hpp2
  rw [(show fr (A 150) (0) = v1.toInt from congrArg Int32.toInt ev1.symm)] at hb2 hb3
  refine pe_bipushv (n := 30) (v := 30) (by decide +kernel) (by decide +kernel) ?_
  refine pz_icmp_lt (off := 9) (t := 22) (by decide +kernel) (by decide) rfl rfl kz_30 (fun h4 => ?_) (fun h4 => ?_)
  · skip
    refine pe_aload_n (j := 0) (by decide +kernel) rfl ?_
    refine pe_bipushv (n := 11) (v := 11) (by decide +kernel) (by decide +kernel) ?_
    refine pe_bipushv (n := 16) (v := 16) (by decide +kernel) (by decide +kernel) ?_
    have htx5 : TX f f A A := TX_refl hpp0
    refine pz_callV (j := 140) (mj := 208) (by decide +kernel) (cll_V (args := [.int 16, .int 11]) (n := 2) (by decide +kernel) rfl rfl (md_o hc) (by decide +kernel) (Nat.le_of_ble_eq_true rfl) (Nat.le_of_ble_eq_true rfl)) (NM_208 hc hI (by decide +kernel) (by decide +kernel) htx5.2.2.2.2) (fun q6a q6b q6c q6d hqq6 => ?_)
    obtain ⟨f7, A8, rq6, eq6, hIq6, hGq6, hFq6, kq6⟩ := hqq6
    cases eq6
    refine ⟨rfl, rfl, ?_⟩
    obtain ⟨kfq6, kq6⟩ := kq6
    obtain ⟨hp9, hp10, kq6⟩ := kq6
    have htx11 := TX_trans htx5 hp9
    show pmE pg X pg_tyl pg_cl (d + 5) 215 30 [.ref 147, .int (f 4), pm_dead, pm_dead] [.int rq6] (md wc f7 A8) _
    refine pe_istore_n (j := 2) (ls' := [.ref 147, .int (f 4), .int rq6, pm_dead]) (by decide +kernel) (Nat.le_of_ble_eq_true rfl) rfl ?_
    refine pe_iconstv (n := 0) (v := 0) (by decide +kernel) (by decide +kernel) ?_
    refine pe_istore_n (j := 3) (ls' := [.ref 147, .int (f 4), .int rq6, .int 0]) (by decide +kernel) (Nat.le_of_ble_eq_true rfl) rfl ?_
    refine NL_215_33 hc (by omega) (fun A12 y13 hIy14 hFA12 gy13 => ?_) 9 A8 0 hIq6 (fun k _ => rfl) (by decide +kernel) (by decide +kernel)
    refine pe_iload_n (j := 2) (by decide +kernel) rfl ?_
    refine pe_bipushv (n := 11) (v := 11) (by decide +kernel) (by decide +kernel) ?_
    refine pz_icmp_eq (off := 9) (t := 64) (by decide +kernel) (by decide) rfl rfl kz_11 (fun h15 => ?_) (fun h15 => ?_)
    · skip
      refine pe_aload_n (j := 0) (by decide +kernel) rfl ?_
      refine pe_get (j := 20) (ci := 12) (n := 11) (by decide +kernel) (by decide +kernel) (md_o hc) rfl ?_
      refine pe_iconstv (n := 0) (v := 0) (by decide +kernel) (by decide +kernel) ?_
      refine pe_aload_n (j := 0) (by decide +kernel) rfl ?_
      refine pe_iconstv (n := (-1)) (v := (-1)) (by decide +kernel) (by decide +kernel) ?_
      have htx16 := TX_fr (f2 := f7) (A2 := A12) htx11 (rfl) (rfl) (rfl) (by rw [show f7 9 = f7 9 from rfl]; exact Int.le_refl _) ((hFA12 148 (by decide)))
      have hts17 := TS_w hp10 (Int.le_of_eq (ms_eq (rfl) (rfl) (rfl)).symm)
      refine pz_callV (j := 137) (mj := 212) (by decide +kernel) (cll_V (args := [.int (-1)]) (n := 1) (by decide +kernel) rfl rfl (md_o hc) (by decide +kernel) (Nat.le_of_ble_eq_true rfl) (Nat.le_of_ble_eq_true rfl)) (NM_212 hc hIy14 htx16.2.2.2.2) (fun q18a q18b q18c q18d hqq18 => ?_)
      obtain ⟨f19, A20, rq18, eq18, hIq18, hGq18, hFq18, kq18⟩ := hqq18
      cases eq18
      refine ⟨rfl, rfl, ?_⟩
      obtain ⟨kfq18, kq18⟩ := kq18
      obtain ⟨hp21, hp22, kq18⟩ := kq18
      have htx23 := TX_trans htx16 hp21
      have hts24 := TS_w hts17 hp21.2.2.1
      show pmE pg X pg_tyl pg_cl (d + 5) 215 74 [.ref 147, .int (f 4), .int rq6, .int y13] [.int rq18, .int 0, .ref 151] (md wc f19 A20) _
      refine mz_st151 (by decide +kernel) hc hIq18 kz_0 (by omega) (by omega) (fun A25 eA25 hIA25 => ?_)
      refine pe_aload_n (j := 0) (by decide +kernel) rfl ?_
      refine pe_get (j := 20) (ci := 12) (n := 11) (by decide +kernel) (by decide +kernel) (md_o hc) rfl ?_
      refine pe_iconstv (n := 1) (v := 1) (by decide +kernel) (by decide +kernel) ?_
      refine pe_aload_n (j := 0) (by decide +kernel) rfl ?_
      refine pe_aload_n (j := 0) (by decide +kernel) rfl ?_
      refine pe_get (j := 20) (ci := 12) (n := 11) (by decide +kernel) (by decide +kernel) (md_o hc) rfl ?_
      refine pe_iconstv (n := 0) (v := 0) (by decide +kernel) (by decide +kernel) ?_
      refine pz_iald (by decide +kernel) (md_a151 hc) (mlen_151 hIA25) kz_0 (by omega) (by omega) (fun v26 ev26 => ?_)
      have htx27 := TX_fr (f2 := f19) (A2 := A25) htx23 (rfl) (rfl) (rfl) (by rw [show f19 9 = f19 9 from rfl]; exact Int.le_refl _) (upa_fr eA25 (by decide))
      have hts28 := TS_w hts24 (Int.le_of_eq (ms_eq (rfl) (rfl) (rfl)).symm)
      refine pz_callV (j := 137) (mj := 212) (by decide +kernel) (cll_V (args := [.int v26]) (n := 1) (by decide +kernel) rfl rfl (md_o hc) (by decide +kernel) (Nat.le_of_ble_eq_true rfl) (Nat.le_of_ble_eq_true rfl)) (NM_212 hc hIA25 htx27.2.2.2.2) (fun q29a q29b q29c q29d hqq29 => ?_)
      obtain ⟨f30, A31, rq29, eq29, hIq29, hGq29, hFq29, kq29⟩ := hqq29
      cases eq29
      refine ⟨rfl, rfl, ?_⟩
      obtain ⟨kfq29, kq29⟩ := kq29
      obtain ⟨hp32, hp33, kq29⟩ := kq29
      have htx34 := TX_trans htx27 hp32
      have hts35 := TS_w hts28 hp32.2.2.1
      have hge36 : rq18.toInt ≤ (f30 9).toInt := Int.le_trans hp22 hp32.2.2.2.1
      show pmE pg X pg_tyl pg_cl (d + 5) 215 90 [.ref 147, .int (f 4), .int rq6, .int y13] [.int rq29, .int 1, .ref 151] (md wc f30 A31) _
      refine mz_st151 (by decide +kernel) hc hIq29 kz_1 (by omega) (by omega) (fun A37 eA37 hIA37 => ?_)
      refine pe_aload_n (j := 0) (by decide +kernel) rfl ?_
      refine pe_get (j := 20) (ci := 12) (n := 11) (by decide +kernel) (by decide +kernel) (md_o hc) rfl ?_
      refine pe_iconstv (n := 2) (v := 2) (by decide +kernel) (by decide +kernel) ?_
      refine pe_aload_n (j := 0) (by decide +kernel) rfl ?_
      refine pe_iconstv (n := 1) (v := 1) (by decide +kernel) (by decide +kernel) ?_
      refine pe_bipushv (n := 99) (v := 99) (by decide +kernel) (by decide +kernel) ?_
      have hl38 := kz_1
      have hl39 := kz_99
      have htx40 := TX_fr (f2 := f30) (A2 := A37) htx34 (rfl) (rfl) (rfl) (by rw [show f30 9 = f30 9 from rfl]; exact Int.le_refl _) (upa_fr eA37 (by decide))
      have hts41 := TS_w hts35 (Int.le_of_eq (ms_eq (rfl) (rfl) (rfl)).symm)
      refine pz_callV (j := 130) (mj := 210) (by decide +kernel) (cll_V (args := [.int 99, .int 1]) (n := 2) (by decide +kernel) rfl rfl (md_o hc) (by decide +kernel) (Nat.le_of_ble_eq_true rfl) (Nat.le_of_ble_eq_true rfl)) (NM_210 hc hIA37 (by decide +kernel) (by decide +kernel) (by omega) htx40.2.2.2.2) (fun q42a q42b q42c q42d hqq42 => ?_)
      obtain ⟨f43, A44, rq42, eq42, hIq42, hGq42, hFq42, hX0q42, hX1q42, kq42⟩ := hqq42
      cases eq42
      refine ⟨rfl, rfl, ?_⟩
      obtain ⟨kfq42, kq42⟩ := kq42
      obtain ⟨hp45, hp46, kq42⟩ := kq42
      have htx47 := TX_trans htx40 hp45
      have hts48 := TS_w hts41 hp45.2.2.1
      have hge49 : rq18.toInt ≤ (f43 9).toInt := Int.le_trans hge36 hp45.2.2.2.1
      have hge50 : rq29.toInt ≤ (f43 9).toInt := Int.le_trans hp33 hp45.2.2.2.1
      show pmE pg X pg_tyl pg_cl (d + 5) 215 103 [.ref 147, .int (f 4), .int rq6, .int y13] [.int rq42, .int 2, .ref 151] (md wc f43 A44) _
      refine mz_st151 (by decide +kernel) hc hIq42 kz_2 (by omega) (by omega) (fun A51 eA51 hIA51 => ?_)
      refine pe_iload_n (j := 2) (by decide +kernel) rfl ?_
      refine pe_bipushv (n := 13) (v := 13) (by decide +kernel) (by decide +kernel) ?_
      refine pz_icmp_ne (off := 7) (t := 114) (by decide +kernel) (by decide) rfl rfl kz_13 (fun h52 => ?_) (fun h52 => by omega)
      refine pe_iload_n (j := 2) (by decide +kernel) rfl ?_
      refine pe_bipushv (n := 14) (v := 14) (by decide +kernel) (by decide +kernel) ?_
      refine pz_icmp_ne (off := 16) (t := 133) (by decide +kernel) (by decide) rfl rfl kz_14 (fun h53 => ?_) (fun h53 => by omega)
      refine pe_iload_n (j := 2) (by decide +kernel) rfl ?_
      refine pe_bipushv (n := 15) (v := 15) (by decide +kernel) (by decide +kernel) ?_
      refine pz_icmp_ne (off := 14) (t := 150) (by decide +kernel) (by decide) rfl rfl kz_15 (fun h54 => ?_) (fun h54 => by omega)
      have he56 : fr (A51 151) 0 = rq18.toInt := (congrArg Int32.toInt (show (A51 151).getD 0 0 = rq18 from (el_ne eA51 (by omega)).trans ((el_fr ((hFq42 151 (by decide)))).trans ((el_ne eA37 (by omega)).trans ((el_fr ((hFq29 151 (by decide)))).trans (el_eq eA25 (by rw [(mlen_151 hIq18)]; decide))))))).trans rfl
      have he57 : fr (A51 151) 2 = rq42.toInt := (congrArg Int32.toInt (show (A51 151).getD 2 0 = rq42 from el_eq eA51 (by rw [(mlen_151 hIq42)]; decide))).trans rfl
      have hmra55 : MRA (rq6.toInt - 11) (fr (A51 151) 0) (fr (A51 151) 2) := by
        unfold MRA
        omega
      refine pe_aload_n (j := 0) (by decide +kernel) rfl ?_
      refine pe_get (j := 17) (ci := 12) (n := 10) (by decide +kernel) (by decide +kernel) (md_o hc) rfl ?_
      refine pe_iconstv (n := 0) (v := 0) (by decide +kernel) (by decide +kernel) ?_
      refine pz_iald (by decide +kernel) (md_a150 hc) (mlen_150 hIA51) kz_0 (by omega) (by omega) (fun v58 ev58 => ?_)
      rw [show A51 150 = A 150 from (upa_fr eA51 (by decide)).trans (((hFq42 150 (by decide))).trans ((upa_fr eA37 (by decide)).trans (((hFq29 150 (by decide))).trans ((upa_fr eA25 (by decide)).trans (((hFq18 150 (by decide))).trans (((hFA12 150 (by decide))).trans ((hFq6 150 (by decide)))))))))] at ev58
      rw [ev58.trans ev1.symm]
      clear ev58 v58
      refine pe_bipushv (n := 30) (v := 30) (by decide +kernel) (by decide +kernel) ?_
      refine pz_icmp_ge (off := 61) (t := 219) (by decide +kernel) (by decide) rfl rfl kz_30 (fun h59 => by omega) (fun h59 => ?_)
      refine pe_aload_n (j := 0) (by decide +kernel) rfl ?_
      refine pe_get (j := 17) (ci := 12) (n := 10) (by decide +kernel) (by decide +kernel) (md_o hc) rfl ?_
      refine pe_iconstv (n := 1) (v := 1) (by decide +kernel) (by decide +kernel) ?_
      refine pe_bipushv (n := 9) (v := 9) (by decide +kernel) (by decide +kernel) ?_
      refine pe_aload_n (j := 0) (by decide +kernel) rfl ?_
      refine pe_get (j := 17) (ci := 12) (n := 10) (by decide +kernel) (by decide +kernel) (md_o hc) rfl ?_
      refine pe_iconstv (n := 0) (v := 0) (by decide +kernel) (by decide +kernel) ?_
      refine pz_iald (by decide +kernel) (md_a150 hc) (mlen_150 hIA51) kz_0 (by omega) (by omega) (fun v60 ev60 => ?_)
      rw [show A51 150 = A 150 from (upa_fr eA51 (by decide)).trans (((hFq42 150 (by decide))).trans ((upa_fr eA37 (by decide)).trans (((hFq29 150 (by decide))).trans ((upa_fr eA25 (by decide)).trans (((hFq18 150 (by decide))).trans (((hFA12 150 (by decide))).trans ((hFq6 150 (by decide)))))))))] at ev60
      rw [ev60.trans ev1.symm]
      clear ev60 v60
      refine pz_mul (by decide +kernel) kz_9 rfl (by omega) (by omega) (fun z61 hz61 => ?_)
      refine pz_add (by decide +kernel) kz_1 hz61 (by omega) (by omega) (fun z62 hz62 => ?_)
      clear hz61
      refine pe_iload_n (j := 2) (by decide +kernel) rfl ?_
      refine pe_bipushv (n := 11) (v := 11) (by decide +kernel) (by decide +kernel) ?_
      refine pz_sub (by decide +kernel) rfl kz_11 (by omega) (by omega) (fun z63 hz63 => ?_)
      refine mz_st150 (by decide +kernel) hc hIA51 hz62 (by omega) (by omega) (fun A64 eA64 hIA64 => ?_)
      have htq65 := TQ_zero (e := A64 151) (n := v1.toInt) (v := z63) hpp1 (show fr (A 150) (0) = v1.toInt from congrArg Int32.toInt ev1.symm) (by omega) (by omega) (mlen_150 hI)
      rw [show (A 150).set (1 + 9 * v1.toInt).toNat z63 = A64 150 by rw [upa_at eA64, show A51 150 = A 150 from (upa_fr eA51 (by decide)).trans (((hFq42 150 (by decide))).trans ((upa_fr eA37 (by decide)).trans (((hFq29 150 (by decide))).trans ((upa_fr eA25 (by decide)).trans (((hFq18 150 (by decide))).trans (((hFA12 150 (by decide))).trans ((hFq6 150 (by decide)))))))))]] at htq65
      refine pe_iconstv (n := 0) (v := 0) (by decide +kernel) (by decide +kernel) ?_
      refine pe_istore_n (j := 3) (ls' := [.ref 147, .int (f 4), .int rq6, .int 0]) (by decide +kernel) (Nat.le_of_ble_eq_true rfl) rfl ?_
      refine NL_215_183 (n := v1.toInt) (kd := z63.toInt) hc (by omega) (by omega) (fun A66 y67 hIy68 hFA66 gy67 hp69 => ?_) 9 A64 0 hIA64 (fun k _ => rfl) (by decide +kernel) (by rw [kz_0]; exact htq65) (by decide +kernel)
      have htr70 : TR (A66 150) (fr (A66 148) 3) := TQ_end hp69 (by omega) (by omega) (fun _ => by omega) (by have h := hmra55; rw [← show A64 151 = A51 151 from upa_fr eA64 (by decide)] at h; rw [show z63.toInt = rq6.toInt - 11 from (by omega)]; exact h)
      refine pe_aload_n (j := 0) (by decide +kernel) rfl ?_
      refine pe_get (j := 17) (ci := 12) (n := 10) (by decide +kernel) (by decide +kernel) (md_o hc) rfl ?_
      refine pe_iconstv (n := 0) (v := 0) (by decide +kernel) (by decide +kernel) ?_
      refine pe_dup2 (by decide +kernel) ⟨rfl, rfl⟩ ?_
      refine pz_iald (by decide +kernel) (md_a150 hc) (mlen_150 hIy68) kz_0 (by omega) (by omega) (fun v71 ev71 => ?_)
      have hn072 : v71.toInt = v1.toInt := by rw [← (show fr (A66 150) (0) = v71.toInt from congrArg Int32.toInt ev71.symm)]; exact hp69.2.1
      refine pe_iconstv (n := 1) (v := 1) (by decide +kernel) (by decide +kernel) ?_
      refine pz_add (by decide +kernel) rfl kz_1 (by omega) (by omega) (fun z73 hz73 => ?_)
      refine mz_st150 (by decide +kernel) hc hIy68 kz_0 (by omega) (by omega) (fun A74 eA74 hIA74 => ?_)
      have htr75 : TR (A74 150) (fr (A74 148) 3) := by rw [upa_at eA74, upa_fr eA74 (by decide : (148 : Nat) ≠ 150)]; exact TR_many htr70 (mlen_150 hIy68) (by omega) (by intro z; omega)
      have hc076 : fr (A74 150) 0 ≤ fr (A 150) 0 + 1 := by rw [upa_at eA74, fr_eq (by decide) (by rw [mlen_150 hIy68]; decide), (show fr (A 150) (0) = v1.toInt from congrArg Int32.toInt ev1.symm)]; omega
      refine pe_aload_n (j := 0) (by decide +kernel) rfl ?_
      have htx77 := TX_fr (f2 := f43) (A2 := A74) htx47 (rfl) (rfl) (rfl) (by rw [show f43 9 = f43 9 from rfl]; exact Int.le_refl _) ((upa_fr eA74 (by decide)).trans (((hFA66 148 (by decide))).trans ((upa_fr eA64 (by decide)).trans (upa_fr eA51 (by decide)))))
      have hts78 := TS_w hts48 (Int.le_of_eq (ms_eq (rfl) (rfl) (rfl)).symm)
      refine pz_callV (j := 147) (mj := 214) (by decide +kernel) (cll_V (args := []) (n := 0) (by decide +kernel) rfl rfl (md_o hc) (by decide +kernel) (Nat.le_of_ble_eq_true rfl) (Nat.le_of_ble_eq_true rfl)) (NM_214 hc hIA74 htx77.2.2.2.2) (fun q79a q79b q79c q79d hqq79 => ?_)
      obtain ⟨f80, A81, eq79, hIq79, hGq79, hFq79, kq79⟩ := hqq79
      cases eq79
      refine ⟨rfl, rfl, ?_⟩
      obtain ⟨hp82, kq79⟩ := kq79
      have htx83 := TX_trans htx77 hp82
      have hts84 := TS_w hts78 hp82.2.2.1
      have hge85 : rq18.toInt ≤ (f80 9).toInt := Int.le_trans hge49 hp82.2.2.2.1
      have hge86 : rq29.toInt ≤ (f80 9).toInt := Int.le_trans hge50 hp82.2.2.2.1
      show pmE pg X pg_tyl pg_cl (d + 5) 215 233 [.ref 147, .int (f 4), .int rq6, .int y67] [] (md wc f80 A81) _
      exact pe_vret (by decide +kernel) rfl ⟨f80, A81, rfl, hIq79, (fun k n3 n4 n5 n6 n7 n8 n9 => ((hGq79 k n3 n4 n5 n6 n7 n8)).trans (((hGq42 k n3 n4 n5 n6 n7 n8)).trans (((hGq29 k n3 n4 n5 n6 n7 n8 n9)).trans (((hGq18 k n3 n4 n5 n6 n7 n8 n9)).trans ((hGq6 k n3 n4 n5 n6 n7 n8)))))), (fun k n148 n150 n151 => ((hFq79 k n148)).trans ((upa_fr eA74 n150).trans (((hFA66 k n150)).trans ((upa_fr eA64 n150).trans ((upa_fr eA51 n151).trans (((hFq42 k n148)).trans ((upa_fr eA37 n151).trans (((hFq29 k n148)).trans ((upa_fr eA25 n151).trans (((hFq18 k n148)).trans (((hFA12 k n151)).trans ((hFq6 k n148))))))))))))), ⟨htx83, hts84, (by rw [show A81 150 = A74 150 from (hFq79 150 (by decide))]; exact TR_up htr75 hp82.1), (by rw [show A81 150 = A74 150 from (hFq79 150 (by decide))]; exact hc076), trivial⟩⟩
    · skip
      refine pe_iload_n (j := 2) (by decide +kernel) rfl ?_
      refine pe_bipushv (n := 12) (v := 12) (by decide +kernel) (by decide +kernel) ?_
      refine pz_icmp_ne (off := 43) (t := 104) (by decide +kernel) (by decide) rfl rfl kz_12 (fun h87 => ?_) (fun h87 => ?_)
      · skip
        refine pe_iload_n (j := 2) (by decide +kernel) rfl ?_
        refine pe_bipushv (n := 13) (v := 13) (by decide +kernel) (by decide +kernel) ?_
        refine pz_icmp_ne (off := 7) (t := 114) (by decide +kernel) (by decide) rfl rfl kz_13 (fun h88 => ?_) (fun h88 => ?_)
        · skip
          refine pe_iload_n (j := 2) (by decide +kernel) rfl ?_
          refine pe_bipushv (n := 14) (v := 14) (by decide +kernel) (by decide +kernel) ?_
          refine pz_icmp_ne (off := 16) (t := 133) (by decide +kernel) (by decide) rfl rfl kz_14 (fun h89 => ?_) (fun h89 => ?_)
          · skip
            refine pe_iload_n (j := 2) (by decide +kernel) rfl ?_
            refine pe_bipushv (n := 15) (v := 15) (by decide +kernel) (by decide +kernel) ?_
            refine pz_icmp_ne (off := 14) (t := 150) (by decide +kernel) (by decide) rfl rfl kz_15 (fun h90 => ?_) (fun h90 => ?_)
            · skip
              have hmra91 : MRA (rq6.toInt - 11) (fr (A12 151) 0) (fr (A12 151) 2) := by
                unfold MRA
                omega
              refine pe_aload_n (j := 0) (by decide +kernel) rfl ?_
              refine pe_get (j := 17) (ci := 12) (n := 10) (by decide +kernel) (by decide +kernel) (md_o hc) rfl ?_
              refine pe_iconstv (n := 0) (v := 0) (by decide +kernel) (by decide +kernel) ?_
              refine pz_iald (by decide +kernel) (md_a150 hc) (mlen_150 hIy14) kz_0 (by omega) (by omega) (fun v92 ev92 => ?_)
              rw [show A12 150 = A 150 from ((hFA12 150 (by decide))).trans ((hFq6 150 (by decide)))] at ev92
              rw [ev92.trans ev1.symm]
              clear ev92 v92
              refine pe_bipushv (n := 30) (v := 30) (by decide +kernel) (by decide +kernel) ?_
              refine pz_icmp_ge (off := 61) (t := 219) (by decide +kernel) (by decide) rfl rfl kz_30 (fun h93 => by omega) (fun h93 => ?_)
              refine pe_aload_n (j := 0) (by decide +kernel) rfl ?_
              refine pe_get (j := 17) (ci := 12) (n := 10) (by decide +kernel) (by decide +kernel) (md_o hc) rfl ?_
              refine pe_iconstv (n := 1) (v := 1) (by decide +kernel) (by decide +kernel) ?_
              refine pe_bipushv (n := 9) (v := 9) (by decide +kernel) (by decide +kernel) ?_
              refine pe_aload_n (j := 0) (by decide +kernel) rfl ?_
              refine pe_get (j := 17) (ci := 12) (n := 10) (by decide +kernel) (by decide +kernel) (md_o hc) rfl ?_
              refine pe_iconstv (n := 0) (v := 0) (by decide +kernel) (by decide +kernel) ?_
              refine pz_iald (by decide +kernel) (md_a150 hc) (mlen_150 hIy14) kz_0 (by omega) (by omega) (fun v94 ev94 => ?_)
              rw [show A12 150 = A 150 from ((hFA12 150 (by decide))).trans ((hFq6 150 (by decide)))] at ev94
              rw [ev94.trans ev1.symm]
              clear ev94 v94
              refine pz_mul (by decide +kernel) kz_9 rfl (by omega) (by omega) (fun z95 hz95 => ?_)
              refine pz_add (by decide +kernel) kz_1 hz95 (by omega) (by omega) (fun z96 hz96 => ?_)
              clear hz95
              refine pe_iload_n (j := 2) (by decide +kernel) rfl ?_
              refine pe_bipushv (n := 11) (v := 11) (by decide +kernel) (by decide +kernel) ?_
              refine pz_sub (by decide +kernel) rfl kz_11 (by omega) (by omega) (fun z97 hz97 => ?_)
              refine mz_st150 (by decide +kernel) hc hIy14 hz96 (by omega) (by omega) (fun A98 eA98 hIA98 => ?_)
              have htq99 := TQ_zero (e := A98 151) (n := v1.toInt) (v := z97) hpp1 (show fr (A 150) (0) = v1.toInt from congrArg Int32.toInt ev1.symm) (by omega) (by omega) (mlen_150 hI)
              rw [show (A 150).set (1 + 9 * v1.toInt).toNat z97 = A98 150 by rw [upa_at eA98, show A12 150 = A 150 from ((hFA12 150 (by decide))).trans ((hFq6 150 (by decide)))]] at htq99
              refine pe_iconstv (n := 0) (v := 0) (by decide +kernel) (by decide +kernel) ?_
              refine pe_istore_n (j := 3) (ls' := [.ref 147, .int (f 4), .int rq6, .int 0]) (by decide +kernel) (Nat.le_of_ble_eq_true rfl) rfl ?_
              refine NL_215_183 (n := v1.toInt) (kd := z97.toInt) hc (by omega) (by omega) (fun A100 y101 hIy102 hFA100 gy101 hp103 => ?_) 9 A98 0 hIA98 (fun k _ => rfl) (by decide +kernel) (by rw [kz_0]; exact htq99) (by decide +kernel)
              have htr104 : TR (A100 150) (fr (A100 148) 3) := TQ_end hp103 (by omega) (by omega) (fun _ => by omega) (by have h := hmra91; rw [← show A98 151 = A12 151 from upa_fr eA98 (by decide)] at h; rw [show z97.toInt = rq6.toInt - 11 from (by omega)]; exact h)
              refine pe_aload_n (j := 0) (by decide +kernel) rfl ?_
              refine pe_get (j := 17) (ci := 12) (n := 10) (by decide +kernel) (by decide +kernel) (md_o hc) rfl ?_
              refine pe_iconstv (n := 0) (v := 0) (by decide +kernel) (by decide +kernel) ?_
              refine pe_dup2 (by decide +kernel) ⟨rfl, rfl⟩ ?_
              refine pz_iald (by decide +kernel) (md_a150 hc) (mlen_150 hIy102) kz_0 (by omega) (by omega) (fun v105 ev105 => ?_)
              have hn0106 : v105.toInt = v1.toInt := by rw [← (show fr (A100 150) (0) = v105.toInt from congrArg Int32.toInt ev105.symm)]; exact hp103.2.1
              refine pe_iconstv (n := 1) (v := 1) (by decide +kernel) (by decide +kernel) ?_
              refine pz_add (by decide +kernel) rfl kz_1 (by omega) (by omega) (fun z107 hz107 => ?_)
              refine mz_st150 (by decide +kernel) hc hIy102 kz_0 (by omega) (by omega) (fun A108 eA108 hIA108 => ?_)
              have htr109 : TR (A108 150) (fr (A108 148) 3) := by rw [upa_at eA108, upa_fr eA108 (by decide : (148 : Nat) ≠ 150)]; exact TR_many htr104 (mlen_150 hIy102) (by omega) (by intro z; omega)
              have hc0110 : fr (A108 150) 0 ≤ fr (A 150) 0 + 1 := by rw [upa_at eA108, fr_eq (by decide) (by rw [mlen_150 hIy102]; decide), (show fr (A 150) (0) = v1.toInt from congrArg Int32.toInt ev1.symm)]; omega
              refine pe_aload_n (j := 0) (by decide +kernel) rfl ?_
              have htx111 := TX_fr (f2 := f7) (A2 := A108) htx11 (rfl) (rfl) (rfl) (by rw [show f7 9 = f7 9 from rfl]; exact Int.le_refl _) ((upa_fr eA108 (by decide)).trans (((hFA100 148 (by decide))).trans ((upa_fr eA98 (by decide)).trans ((hFA12 148 (by decide))))))
              have hts112 := TS_w hp10 (Int.le_of_eq (ms_eq (rfl) (rfl) (rfl)).symm)
              refine pz_callV (j := 147) (mj := 214) (by decide +kernel) (cll_V (args := []) (n := 0) (by decide +kernel) rfl rfl (md_o hc) (by decide +kernel) (Nat.le_of_ble_eq_true rfl) (Nat.le_of_ble_eq_true rfl)) (NM_214 hc hIA108 htx111.2.2.2.2) (fun q113a q113b q113c q113d hqq113 => ?_)
              obtain ⟨f114, A115, eq113, hIq113, hGq113, hFq113, kq113⟩ := hqq113
              cases eq113
              refine ⟨rfl, rfl, ?_⟩
              obtain ⟨hp116, kq113⟩ := kq113
              have htx117 := TX_trans htx111 hp116
              have hts118 := TS_w hts112 hp116.2.2.1
              show pmE pg X pg_tyl pg_cl (d + 5) 215 233 [.ref 147, .int (f 4), .int rq6, .int y101] [] (md wc f114 A115) _
              exact pe_vret (by decide +kernel) rfl ⟨f114, A115, rfl, hIq113, (fun k n3 n4 n5 n6 n7 n8 n9 => ((hGq113 k n3 n4 n5 n6 n7 n8)).trans ((hGq6 k n3 n4 n5 n6 n7 n8))), (fun k n148 n150 n151 => ((hFq113 k n148)).trans ((upa_fr eA108 n150).trans (((hFA100 k n150)).trans ((upa_fr eA98 n150).trans (((hFA12 k n151)).trans ((hFq6 k n148))))))), ⟨htx117, hts118, (by rw [show A115 150 = A108 150 from (hFq113 150 (by decide))]; exact TR_up htr109 hp116.1), (by rw [show A115 150 = A108 150 from (hFq113 150 (by decide))]; exact hc0110), trivial⟩⟩
            · skip
              refine pe_aload_n (j := 0) (by decide +kernel) rfl ?_
              refine pe_get (j := 20) (ci := 12) (n := 11) (by decide +kernel) (by decide +kernel) (md_o hc) rfl ?_
              refine pe_iconstv (n := 0) (v := 0) (by decide +kernel) (by decide +kernel) ?_
              refine pe_aload_n (j := 0) (by decide +kernel) rfl ?_
              refine pe_iconstv (n := (-1)) (v := (-1)) (by decide +kernel) (by decide +kernel) ?_
              have htx119 := TX_fr (f2 := f7) (A2 := A12) htx11 (rfl) (rfl) (rfl) (by rw [show f7 9 = f7 9 from rfl]; exact Int.le_refl _) ((hFA12 148 (by decide)))
              have hts120 := TS_w hp10 (Int.le_of_eq (ms_eq (rfl) (rfl) (rfl)).symm)
              refine pz_callV (j := 137) (mj := 212) (by decide +kernel) (cll_V (args := [.int (-1)]) (n := 1) (by decide +kernel) rfl rfl (md_o hc) (by decide +kernel) (Nat.le_of_ble_eq_true rfl) (Nat.le_of_ble_eq_true rfl)) (NM_212 hc hIy14 htx119.2.2.2.2) (fun q121a q121b q121c q121d hqq121 => ?_)
              obtain ⟨f122, A123, rq121, eq121, hIq121, hGq121, hFq121, kq121⟩ := hqq121
              cases eq121
              refine ⟨rfl, rfl, ?_⟩
              obtain ⟨kfq121, kq121⟩ := kq121
              obtain ⟨hp124, hp125, kq121⟩ := kq121
              have htx126 := TX_trans htx119 hp124
              have hts127 := TS_w hts120 hp124.2.2.1
              show pmE pg X pg_tyl pg_cl (d + 5) 215 149 [.ref 147, .int (f 4), .int rq6, .int y13] [.int rq121, .int 0, .ref 151] (md wc f122 A123) _
              refine mz_st151 (by decide +kernel) hc hIq121 kz_0 (by omega) (by omega) (fun A128 eA128 hIA128 => ?_)
              have he130 : fr (A128 151) 0 = rq121.toInt := (congrArg Int32.toInt (show (A128 151).getD 0 0 = rq121 from el_eq eA128 (by rw [(mlen_151 hIq121)]; decide))).trans rfl
              have hmra129 : MRA (rq6.toInt - 11) (fr (A128 151) 0) (fr (A128 151) 2) := by
                unfold MRA
                omega
              refine pe_aload_n (j := 0) (by decide +kernel) rfl ?_
              refine pe_get (j := 17) (ci := 12) (n := 10) (by decide +kernel) (by decide +kernel) (md_o hc) rfl ?_
              refine pe_iconstv (n := 0) (v := 0) (by decide +kernel) (by decide +kernel) ?_
              refine pz_iald (by decide +kernel) (md_a150 hc) (mlen_150 hIA128) kz_0 (by omega) (by omega) (fun v131 ev131 => ?_)
              rw [show A128 150 = A 150 from (upa_fr eA128 (by decide)).trans (((hFq121 150 (by decide))).trans (((hFA12 150 (by decide))).trans ((hFq6 150 (by decide)))))] at ev131
              rw [ev131.trans ev1.symm]
              clear ev131 v131
              refine pe_bipushv (n := 30) (v := 30) (by decide +kernel) (by decide +kernel) ?_
              refine pz_icmp_ge (off := 61) (t := 219) (by decide +kernel) (by decide) rfl rfl kz_30 (fun h132 => by omega) (fun h132 => ?_)
              refine pe_aload_n (j := 0) (by decide +kernel) rfl ?_
              refine pe_get (j := 17) (ci := 12) (n := 10) (by decide +kernel) (by decide +kernel) (md_o hc) rfl ?_
              refine pe_iconstv (n := 1) (v := 1) (by decide +kernel) (by decide +kernel) ?_
              refine pe_bipushv (n := 9) (v := 9) (by decide +kernel) (by decide +kernel) ?_
              refine pe_aload_n (j := 0) (by decide +kernel) rfl ?_
              refine pe_get (j := 17) (ci := 12) (n := 10) (by decide +kernel) (by decide +kernel) (md_o hc) rfl ?_
              refine pe_iconstv (n := 0) (v := 0) (by decide +kernel) (by decide +kernel) ?_
              refine pz_iald (by decide +kernel) (md_a150 hc) (mlen_150 hIA128) kz_0 (by omega) (by omega) (fun v133 ev133 => ?_)
              rw [show A128 150 = A 150 from (upa_fr eA128 (by decide)).trans (((hFq121 150 (by decide))).trans (((hFA12 150 (by decide))).trans ((hFq6 150 (by decide)))))] at ev133
              rw [ev133.trans ev1.symm]
              clear ev133 v133
              refine pz_mul (by decide +kernel) kz_9 rfl (by omega) (by omega) (fun z134 hz134 => ?_)
              refine pz_add (by decide +kernel) kz_1 hz134 (by omega) (by omega) (fun z135 hz135 => ?_)
              clear hz134
              refine pe_iload_n (j := 2) (by decide +kernel) rfl ?_
              refine pe_bipushv (n := 11) (v := 11) (by decide +kernel) (by decide +kernel) ?_
              refine pz_sub (by decide +kernel) rfl kz_11 (by omega) (by omega) (fun z136 hz136 => ?_)
              refine mz_st150 (by decide +kernel) hc hIA128 hz135 (by omega) (by omega) (fun A137 eA137 hIA137 => ?_)
              have htq138 := TQ_zero (e := A137 151) (n := v1.toInt) (v := z136) hpp1 (show fr (A 150) (0) = v1.toInt from congrArg Int32.toInt ev1.symm) (by omega) (by omega) (mlen_150 hI)
              rw [show (A 150).set (1 + 9 * v1.toInt).toNat z136 = A137 150 by rw [upa_at eA137, show A128 150 = A 150 from (upa_fr eA128 (by decide)).trans (((hFq121 150 (by decide))).trans (((hFA12 150 (by decide))).trans ((hFq6 150 (by decide)))))]] at htq138
              refine pe_iconstv (n := 0) (v := 0) (by decide +kernel) (by decide +kernel) ?_
              refine pe_istore_n (j := 3) (ls' := [.ref 147, .int (f 4), .int rq6, .int 0]) (by decide +kernel) (Nat.le_of_ble_eq_true rfl) rfl ?_
              refine NL_215_183 (n := v1.toInt) (kd := z136.toInt) hc (by omega) (by omega) (fun A139 y140 hIy141 hFA139 gy140 hp142 => ?_) 9 A137 0 hIA137 (fun k _ => rfl) (by decide +kernel) (by rw [kz_0]; exact htq138) (by decide +kernel)
              have htr143 : TR (A139 150) (fr (A139 148) 3) := TQ_end hp142 (by omega) (by omega) (fun _ => by omega) (by have h := hmra129; rw [← show A137 151 = A128 151 from upa_fr eA137 (by decide)] at h; rw [show z136.toInt = rq6.toInt - 11 from (by omega)]; exact h)
              refine pe_aload_n (j := 0) (by decide +kernel) rfl ?_
              refine pe_get (j := 17) (ci := 12) (n := 10) (by decide +kernel) (by decide +kernel) (md_o hc) rfl ?_
              refine pe_iconstv (n := 0) (v := 0) (by decide +kernel) (by decide +kernel) ?_
              refine pe_dup2 (by decide +kernel) ⟨rfl, rfl⟩ ?_
              refine pz_iald (by decide +kernel) (md_a150 hc) (mlen_150 hIy141) kz_0 (by omega) (by omega) (fun v144 ev144 => ?_)
              have hn0145 : v144.toInt = v1.toInt := by rw [← (show fr (A139 150) (0) = v144.toInt from congrArg Int32.toInt ev144.symm)]; exact hp142.2.1
              refine pe_iconstv (n := 1) (v := 1) (by decide +kernel) (by decide +kernel) ?_
              refine pz_add (by decide +kernel) rfl kz_1 (by omega) (by omega) (fun z146 hz146 => ?_)
              refine mz_st150 (by decide +kernel) hc hIy141 kz_0 (by omega) (by omega) (fun A147 eA147 hIA147 => ?_)
              have htr148 : TR (A147 150) (fr (A147 148) 3) := by rw [upa_at eA147, upa_fr eA147 (by decide : (148 : Nat) ≠ 150)]; exact TR_many htr143 (mlen_150 hIy141) (by omega) (by intro z; omega)
              have hc0149 : fr (A147 150) 0 ≤ fr (A 150) 0 + 1 := by rw [upa_at eA147, fr_eq (by decide) (by rw [mlen_150 hIy141]; decide), (show fr (A 150) (0) = v1.toInt from congrArg Int32.toInt ev1.symm)]; omega
              refine pe_aload_n (j := 0) (by decide +kernel) rfl ?_
              have htx150 := TX_fr (f2 := f122) (A2 := A147) htx126 (rfl) (rfl) (rfl) (by rw [show f122 9 = f122 9 from rfl]; exact Int.le_refl _) ((upa_fr eA147 (by decide)).trans (((hFA139 148 (by decide))).trans ((upa_fr eA137 (by decide)).trans (upa_fr eA128 (by decide)))))
              have hts151 := TS_w hts127 (Int.le_of_eq (ms_eq (rfl) (rfl) (rfl)).symm)
              refine pz_callV (j := 147) (mj := 214) (by decide +kernel) (cll_V (args := []) (n := 0) (by decide +kernel) rfl rfl (md_o hc) (by decide +kernel) (Nat.le_of_ble_eq_true rfl) (Nat.le_of_ble_eq_true rfl)) (NM_214 hc hIA147 htx150.2.2.2.2) (fun q152a q152b q152c q152d hqq152 => ?_)
              obtain ⟨f153, A154, eq152, hIq152, hGq152, hFq152, kq152⟩ := hqq152
              cases eq152
              refine ⟨rfl, rfl, ?_⟩
              obtain ⟨hp155, kq152⟩ := kq152
              have htx156 := TX_trans htx150 hp155
              have hts157 := TS_w hts151 hp155.2.2.1
              have hge158 : rq121.toInt ≤ (f153 9).toInt := Int.le_trans hp125 hp155.2.2.2.1
              show pmE pg X pg_tyl pg_cl (d + 5) 215 233 [.ref 147, .int (f 4), .int rq6, .int y140] [] (md wc f153 A154) _
              exact pe_vret (by decide +kernel) rfl ⟨f153, A154, rfl, hIq152, (fun k n3 n4 n5 n6 n7 n8 n9 => ((hGq152 k n3 n4 n5 n6 n7 n8)).trans (((hGq121 k n3 n4 n5 n6 n7 n8 n9)).trans ((hGq6 k n3 n4 n5 n6 n7 n8)))), (fun k n148 n150 n151 => ((hFq152 k n148)).trans ((upa_fr eA147 n150).trans (((hFA139 k n150)).trans ((upa_fr eA137 n150).trans ((upa_fr eA128 n151).trans (((hFq121 k n148)).trans (((hFA12 k n151)).trans ((hFq6 k n148))))))))), ⟨htx156, hts157, (by rw [show A154 150 = A147 150 from (hFq152 150 (by decide))]; exact TR_up htr148 hp155.1), (by rw [show A154 150 = A147 150 from (hFq152 150 (by decide))]; exact hc0149), trivial⟩⟩
          · skip
            refine pe_aload_n (j := 0) (by decide +kernel) rfl ?_
            refine pe_get (j := 20) (ci := 12) (n := 11) (by decide +kernel) (by decide +kernel) (md_o hc) rfl ?_
            refine pe_iconstv (n := 0) (v := 0) (by decide +kernel) (by decide +kernel) ?_
            refine pe_aload_n (j := 0) (by decide +kernel) rfl ?_
            refine pe_iconstv (n := 0) (v := 0) (by decide +kernel) (by decide +kernel) ?_
            refine pe_bipushv (n := 29) (v := 29) (by decide +kernel) (by decide +kernel) ?_
            have hl159 := kz_0
            have hl160 := kz_29
            have htx161 := TX_fr (f2 := f7) (A2 := A12) htx11 (rfl) (rfl) (rfl) (by rw [show f7 9 = f7 9 from rfl]; exact Int.le_refl _) ((hFA12 148 (by decide)))
            have hts162 := TS_w hp10 (Int.le_of_eq (ms_eq (rfl) (rfl) (rfl)).symm)
            refine pz_callV (j := 130) (mj := 210) (by decide +kernel) (cll_V (args := [.int 29, .int 0]) (n := 2) (by decide +kernel) rfl rfl (md_o hc) (by decide +kernel) (Nat.le_of_ble_eq_true rfl) (Nat.le_of_ble_eq_true rfl)) (NM_210 hc hIy14 (by decide +kernel) (by decide +kernel) (by omega) htx161.2.2.2.2) (fun q163a q163b q163c q163d hqq163 => ?_)
            obtain ⟨f164, A165, rq163, eq163, hIq163, hGq163, hFq163, hX0q163, hX1q163, kq163⟩ := hqq163
            cases eq163
            refine ⟨rfl, rfl, ?_⟩
            obtain ⟨kfq163, kq163⟩ := kq163
            obtain ⟨hp166, hp167, kq163⟩ := kq163
            have htx168 := TX_trans htx161 hp166
            have hts169 := TS_w hts162 hp166.2.2.1
            show pmE pg X pg_tyl pg_cl (d + 5) 215 132 [.ref 147, .int (f 4), .int rq6, .int y13] [.int rq163, .int 0, .ref 151] (md wc f164 A165) _
            refine mz_st151 (by decide +kernel) hc hIq163 kz_0 (by omega) (by omega) (fun A170 eA170 hIA170 => ?_)
            refine pe_iload_n (j := 2) (by decide +kernel) rfl ?_
            refine pe_bipushv (n := 15) (v := 15) (by decide +kernel) (by decide +kernel) ?_
            refine pz_icmp_ne (off := 14) (t := 150) (by decide +kernel) (by decide) rfl rfl kz_15 (fun h171 => ?_) (fun h171 => by omega)
            have he173 : fr (A170 151) 0 = rq163.toInt := (congrArg Int32.toInt (show (A170 151).getD 0 0 = rq163 from el_eq eA170 (by rw [(mlen_151 hIq163)]; decide))).trans rfl
            have hmra172 : MRA (rq6.toInt - 11) (fr (A170 151) 0) (fr (A170 151) 2) := by
              unfold MRA
              omega
            refine pe_aload_n (j := 0) (by decide +kernel) rfl ?_
            refine pe_get (j := 17) (ci := 12) (n := 10) (by decide +kernel) (by decide +kernel) (md_o hc) rfl ?_
            refine pe_iconstv (n := 0) (v := 0) (by decide +kernel) (by decide +kernel) ?_
            refine pz_iald (by decide +kernel) (md_a150 hc) (mlen_150 hIA170) kz_0 (by omega) (by omega) (fun v174 ev174 => ?_)
            rw [show A170 150 = A 150 from (upa_fr eA170 (by decide)).trans (((hFq163 150 (by decide))).trans (((hFA12 150 (by decide))).trans ((hFq6 150 (by decide)))))] at ev174
            rw [ev174.trans ev1.symm]
            clear ev174 v174
            refine pe_bipushv (n := 30) (v := 30) (by decide +kernel) (by decide +kernel) ?_
            refine pz_icmp_ge (off := 61) (t := 219) (by decide +kernel) (by decide) rfl rfl kz_30 (fun h175 => by omega) (fun h175 => ?_)
            refine pe_aload_n (j := 0) (by decide +kernel) rfl ?_
            refine pe_get (j := 17) (ci := 12) (n := 10) (by decide +kernel) (by decide +kernel) (md_o hc) rfl ?_
            refine pe_iconstv (n := 1) (v := 1) (by decide +kernel) (by decide +kernel) ?_
            refine pe_bipushv (n := 9) (v := 9) (by decide +kernel) (by decide +kernel) ?_
            refine pe_aload_n (j := 0) (by decide +kernel) rfl ?_
            refine pe_get (j := 17) (ci := 12) (n := 10) (by decide +kernel) (by decide +kernel) (md_o hc) rfl ?_
            refine pe_iconstv (n := 0) (v := 0) (by decide +kernel) (by decide +kernel) ?_
            refine pz_iald (by decide +kernel) (md_a150 hc) (mlen_150 hIA170) kz_0 (by omega) (by omega) (fun v176 ev176 => ?_)
            rw [show A170 150 = A 150 from (upa_fr eA170 (by decide)).trans (((hFq163 150 (by decide))).trans (((hFA12 150 (by decide))).trans ((hFq6 150 (by decide)))))] at ev176
            rw [ev176.trans ev1.symm]
            clear ev176 v176
            refine pz_mul (by decide +kernel) kz_9 rfl (by omega) (by omega) (fun z177 hz177 => ?_)
            refine pz_add (by decide +kernel) kz_1 hz177 (by omega) (by omega) (fun z178 hz178 => ?_)
            clear hz177
            refine pe_iload_n (j := 2) (by decide +kernel) rfl ?_
            refine pe_bipushv (n := 11) (v := 11) (by decide +kernel) (by decide +kernel) ?_
            refine pz_sub (by decide +kernel) rfl kz_11 (by omega) (by omega) (fun z179 hz179 => ?_)
            refine mz_st150 (by decide +kernel) hc hIA170 hz178 (by omega) (by omega) (fun A180 eA180 hIA180 => ?_)
            have htq181 := TQ_zero (e := A180 151) (n := v1.toInt) (v := z179) hpp1 (show fr (A 150) (0) = v1.toInt from congrArg Int32.toInt ev1.symm) (by omega) (by omega) (mlen_150 hI)
            rw [show (A 150).set (1 + 9 * v1.toInt).toNat z179 = A180 150 by rw [upa_at eA180, show A170 150 = A 150 from (upa_fr eA170 (by decide)).trans (((hFq163 150 (by decide))).trans (((hFA12 150 (by decide))).trans ((hFq6 150 (by decide)))))]] at htq181
            refine pe_iconstv (n := 0) (v := 0) (by decide +kernel) (by decide +kernel) ?_
            refine pe_istore_n (j := 3) (ls' := [.ref 147, .int (f 4), .int rq6, .int 0]) (by decide +kernel) (Nat.le_of_ble_eq_true rfl) rfl ?_
            refine NL_215_183 (n := v1.toInt) (kd := z179.toInt) hc (by omega) (by omega) (fun A182 y183 hIy184 hFA182 gy183 hp185 => ?_) 9 A180 0 hIA180 (fun k _ => rfl) (by decide +kernel) (by rw [kz_0]; exact htq181) (by decide +kernel)
            have htr186 : TR (A182 150) (fr (A182 148) 3) := TQ_end hp185 (by omega) (by omega) (fun _ => by omega) (by have h := hmra172; rw [← show A180 151 = A170 151 from upa_fr eA180 (by decide)] at h; rw [show z179.toInt = rq6.toInt - 11 from (by omega)]; exact h)
            refine pe_aload_n (j := 0) (by decide +kernel) rfl ?_
            refine pe_get (j := 17) (ci := 12) (n := 10) (by decide +kernel) (by decide +kernel) (md_o hc) rfl ?_
            refine pe_iconstv (n := 0) (v := 0) (by decide +kernel) (by decide +kernel) ?_
            refine pe_dup2 (by decide +kernel) ⟨rfl, rfl⟩ ?_
            refine pz_iald (by decide +kernel) (md_a150 hc) (mlen_150 hIy184) kz_0 (by omega) (by omega) (fun v187 ev187 => ?_)
            have hn0188 : v187.toInt = v1.toInt := by rw [← (show fr (A182 150) (0) = v187.toInt from congrArg Int32.toInt ev187.symm)]; exact hp185.2.1
            refine pe_iconstv (n := 1) (v := 1) (by decide +kernel) (by decide +kernel) ?_
            refine pz_add (by decide +kernel) rfl kz_1 (by omega) (by omega) (fun z189 hz189 => ?_)
            refine mz_st150 (by decide +kernel) hc hIy184 kz_0 (by omega) (by omega) (fun A190 eA190 hIA190 => ?_)
            have htr191 : TR (A190 150) (fr (A190 148) 3) := by rw [upa_at eA190, upa_fr eA190 (by decide : (148 : Nat) ≠ 150)]; exact TR_many htr186 (mlen_150 hIy184) (by omega) (by intro z; omega)
            have hc0192 : fr (A190 150) 0 ≤ fr (A 150) 0 + 1 := by rw [upa_at eA190, fr_eq (by decide) (by rw [mlen_150 hIy184]; decide), (show fr (A 150) (0) = v1.toInt from congrArg Int32.toInt ev1.symm)]; omega
            refine pe_aload_n (j := 0) (by decide +kernel) rfl ?_
            have htx193 := TX_fr (f2 := f164) (A2 := A190) htx168 (rfl) (rfl) (rfl) (by rw [show f164 9 = f164 9 from rfl]; exact Int.le_refl _) ((upa_fr eA190 (by decide)).trans (((hFA182 148 (by decide))).trans ((upa_fr eA180 (by decide)).trans (upa_fr eA170 (by decide)))))
            have hts194 := TS_w hts169 (Int.le_of_eq (ms_eq (rfl) (rfl) (rfl)).symm)
            refine pz_callV (j := 147) (mj := 214) (by decide +kernel) (cll_V (args := []) (n := 0) (by decide +kernel) rfl rfl (md_o hc) (by decide +kernel) (Nat.le_of_ble_eq_true rfl) (Nat.le_of_ble_eq_true rfl)) (NM_214 hc hIA190 htx193.2.2.2.2) (fun q195a q195b q195c q195d hqq195 => ?_)
            obtain ⟨f196, A197, eq195, hIq195, hGq195, hFq195, kq195⟩ := hqq195
            cases eq195
            refine ⟨rfl, rfl, ?_⟩
            obtain ⟨hp198, kq195⟩ := kq195
            have htx199 := TX_trans htx193 hp198
            have hts200 := TS_w hts194 hp198.2.2.1
            show pmE pg X pg_tyl pg_cl (d + 5) 215 233 [.ref 147, .int (f 4), .int rq6, .int y183] [] (md wc f196 A197) _
            exact pe_vret (by decide +kernel) rfl ⟨f196, A197, rfl, hIq195, (fun k n3 n4 n5 n6 n7 n8 n9 => ((hGq195 k n3 n4 n5 n6 n7 n8)).trans (((hGq163 k n3 n4 n5 n6 n7 n8)).trans ((hGq6 k n3 n4 n5 n6 n7 n8)))), (fun k n148 n150 n151 => ((hFq195 k n148)).trans ((upa_fr eA190 n150).trans (((hFA182 k n150)).trans ((upa_fr eA180 n150).trans ((upa_fr eA170 n151).trans (((hFq163 k n148)).trans (((hFA12 k n151)).trans ((hFq6 k n148))))))))), ⟨htx199, hts200, (by rw [show A197 150 = A190 150 from (hFq195 150 (by decide))]; exact TR_up htr191 hp198.1), (by rw [show A197 150 = A190 150 from (hFq195 150 (by decide))]; exact hc0192), trivial⟩⟩
        · skip
          refine pe_aload_n (j := 0) (by decide +kernel) rfl ?_
          have htx201 := TX_fr (f2 := f7) (A2 := A12) htx11 (rfl) (rfl) (rfl) (by rw [show f7 9 = f7 9 from rfl]; exact Int.le_refl _) ((hFA12 148 (by decide)))
          have hts202 := TS_w hp10 (Int.le_of_eq (ms_eq (rfl) (rfl) (rfl)).symm)
          refine pz_callV (j := 150) (mj := 216) (by decide +kernel) (cll_V (args := []) (n := 0) (by decide +kernel) rfl rfl (md_o hc) (by decide +kernel) (Nat.le_of_ble_eq_true rfl) (Nat.le_of_ble_eq_true rfl)) (NM_216 hc hIy14 htx201.2.2.2.2) (fun q203a q203b q203c q203d hqq203 => ?_)
          obtain ⟨f204, A205, eq203, hIq203, hGq203, hFq203, kq203⟩ := hqq203
          cases eq203
          refine ⟨rfl, rfl, ?_⟩
          obtain ⟨hp206, hp207, kq203⟩ := kq203
          have htx208 := TX_trans htx201 hp206
          have hts209 := TS_w hts202 hp206.2.2.1
          show pmE pg X pg_tyl pg_cl (d + 5) 215 114 [.ref 147, .int (f 4), .int rq6, .int y13] [] (md wc f204 A205) _
          refine pe_iload_n (j := 2) (by decide +kernel) rfl ?_
          refine pe_bipushv (n := 14) (v := 14) (by decide +kernel) (by decide +kernel) ?_
          refine pz_icmp_ne (off := 16) (t := 133) (by decide +kernel) (by decide) rfl rfl kz_14 (fun h210 => ?_) (fun h210 => by omega)
          refine pe_iload_n (j := 2) (by decide +kernel) rfl ?_
          refine pe_bipushv (n := 15) (v := 15) (by decide +kernel) (by decide +kernel) ?_
          refine pz_icmp_ne (off := 14) (t := 150) (by decide +kernel) (by decide) rfl rfl kz_15 (fun h211 => ?_) (fun h211 => by omega)
          have hmra212 : MRA (rq6.toInt - 11) (fr (A205 151) 0) (fr (A205 151) 2) := by
            have h0 := hp207; rw [← show A205 151 = A205 151 from rfl] at h0
            unfold MRA
            omega
          refine pe_aload_n (j := 0) (by decide +kernel) rfl ?_
          refine pe_get (j := 17) (ci := 12) (n := 10) (by decide +kernel) (by decide +kernel) (md_o hc) rfl ?_
          refine pe_iconstv (n := 0) (v := 0) (by decide +kernel) (by decide +kernel) ?_
          refine pz_iald (by decide +kernel) (md_a150 hc) (mlen_150 hIq203) kz_0 (by omega) (by omega) (fun v213 ev213 => ?_)
          rw [show A205 150 = A 150 from ((hFq203 150 (by decide) (by decide))).trans (((hFA12 150 (by decide))).trans ((hFq6 150 (by decide))))] at ev213
          rw [ev213.trans ev1.symm]
          clear ev213 v213
          refine pe_bipushv (n := 30) (v := 30) (by decide +kernel) (by decide +kernel) ?_
          refine pz_icmp_ge (off := 61) (t := 219) (by decide +kernel) (by decide) rfl rfl kz_30 (fun h214 => by omega) (fun h214 => ?_)
          refine pe_aload_n (j := 0) (by decide +kernel) rfl ?_
          refine pe_get (j := 17) (ci := 12) (n := 10) (by decide +kernel) (by decide +kernel) (md_o hc) rfl ?_
          refine pe_iconstv (n := 1) (v := 1) (by decide +kernel) (by decide +kernel) ?_
          refine pe_bipushv (n := 9) (v := 9) (by decide +kernel) (by decide +kernel) ?_
          refine pe_aload_n (j := 0) (by decide +kernel) rfl ?_
          refine pe_get (j := 17) (ci := 12) (n := 10) (by decide +kernel) (by decide +kernel) (md_o hc) rfl ?_
          refine pe_iconstv (n := 0) (v := 0) (by decide +kernel) (by decide +kernel) ?_
          refine pz_iald (by decide +kernel) (md_a150 hc) (mlen_150 hIq203) kz_0 (by omega) (by omega) (fun v215 ev215 => ?_)
          rw [show A205 150 = A 150 from ((hFq203 150 (by decide) (by decide))).trans (((hFA12 150 (by decide))).trans ((hFq6 150 (by decide))))] at ev215
          rw [ev215.trans ev1.symm]
          clear ev215 v215
          refine pz_mul (by decide +kernel) kz_9 rfl (by omega) (by omega) (fun z216 hz216 => ?_)
          refine pz_add (by decide +kernel) kz_1 hz216 (by omega) (by omega) (fun z217 hz217 => ?_)
          clear hz216
          refine pe_iload_n (j := 2) (by decide +kernel) rfl ?_
          refine pe_bipushv (n := 11) (v := 11) (by decide +kernel) (by decide +kernel) ?_
          refine pz_sub (by decide +kernel) rfl kz_11 (by omega) (by omega) (fun z218 hz218 => ?_)
          refine mz_st150 (by decide +kernel) hc hIq203 hz217 (by omega) (by omega) (fun A219 eA219 hIA219 => ?_)
          have htq220 := TQ_zero (e := A219 151) (n := v1.toInt) (v := z218) hpp1 (show fr (A 150) (0) = v1.toInt from congrArg Int32.toInt ev1.symm) (by omega) (by omega) (mlen_150 hI)
          rw [show (A 150).set (1 + 9 * v1.toInt).toNat z218 = A219 150 by rw [upa_at eA219, show A205 150 = A 150 from ((hFq203 150 (by decide) (by decide))).trans (((hFA12 150 (by decide))).trans ((hFq6 150 (by decide))))]] at htq220
          refine pe_iconstv (n := 0) (v := 0) (by decide +kernel) (by decide +kernel) ?_
          refine pe_istore_n (j := 3) (ls' := [.ref 147, .int (f 4), .int rq6, .int 0]) (by decide +kernel) (Nat.le_of_ble_eq_true rfl) rfl ?_
          refine NL_215_183 (n := v1.toInt) (kd := z218.toInt) hc (by omega) (by omega) (fun A221 y222 hIy223 hFA221 gy222 hp224 => ?_) 9 A219 0 hIA219 (fun k _ => rfl) (by decide +kernel) (by rw [kz_0]; exact htq220) (by decide +kernel)
          have htr225 : TR (A221 150) (fr (A221 148) 3) := TQ_end hp224 (by omega) (by omega) (fun _ => by omega) (by have h := hmra212; rw [← show A219 151 = A205 151 from upa_fr eA219 (by decide)] at h; rw [show z218.toInt = rq6.toInt - 11 from (by omega)]; exact h)
          refine pe_aload_n (j := 0) (by decide +kernel) rfl ?_
          refine pe_get (j := 17) (ci := 12) (n := 10) (by decide +kernel) (by decide +kernel) (md_o hc) rfl ?_
          refine pe_iconstv (n := 0) (v := 0) (by decide +kernel) (by decide +kernel) ?_
          refine pe_dup2 (by decide +kernel) ⟨rfl, rfl⟩ ?_
          refine pz_iald (by decide +kernel) (md_a150 hc) (mlen_150 hIy223) kz_0 (by omega) (by omega) (fun v226 ev226 => ?_)
          have hn0227 : v226.toInt = v1.toInt := by rw [← (show fr (A221 150) (0) = v226.toInt from congrArg Int32.toInt ev226.symm)]; exact hp224.2.1
          refine pe_iconstv (n := 1) (v := 1) (by decide +kernel) (by decide +kernel) ?_
          refine pz_add (by decide +kernel) rfl kz_1 (by omega) (by omega) (fun z228 hz228 => ?_)
          refine mz_st150 (by decide +kernel) hc hIy223 kz_0 (by omega) (by omega) (fun A229 eA229 hIA229 => ?_)
          have htr230 : TR (A229 150) (fr (A229 148) 3) := by rw [upa_at eA229, upa_fr eA229 (by decide : (148 : Nat) ≠ 150)]; exact TR_many htr225 (mlen_150 hIy223) (by omega) (by intro z; omega)
          have hc0231 : fr (A229 150) 0 ≤ fr (A 150) 0 + 1 := by rw [upa_at eA229, fr_eq (by decide) (by rw [mlen_150 hIy223]; decide), (show fr (A 150) (0) = v1.toInt from congrArg Int32.toInt ev1.symm)]; omega
          refine pe_aload_n (j := 0) (by decide +kernel) rfl ?_
          have htx232 := TX_fr (f2 := f204) (A2 := A229) htx208 (rfl) (rfl) (rfl) (by rw [show f204 9 = f204 9 from rfl]; exact Int.le_refl _) ((upa_fr eA229 (by decide)).trans (((hFA221 148 (by decide))).trans (upa_fr eA219 (by decide))))
          have hts233 := TS_w hts209 (Int.le_of_eq (ms_eq (rfl) (rfl) (rfl)).symm)
          refine pz_callV (j := 147) (mj := 214) (by decide +kernel) (cll_V (args := []) (n := 0) (by decide +kernel) rfl rfl (md_o hc) (by decide +kernel) (Nat.le_of_ble_eq_true rfl) (Nat.le_of_ble_eq_true rfl)) (NM_214 hc hIA229 htx232.2.2.2.2) (fun q234a q234b q234c q234d hqq234 => ?_)
          obtain ⟨f235, A236, eq234, hIq234, hGq234, hFq234, kq234⟩ := hqq234
          cases eq234
          refine ⟨rfl, rfl, ?_⟩
          obtain ⟨hp237, kq234⟩ := kq234
          have htx238 := TX_trans htx232 hp237
          have hts239 := TS_w hts233 hp237.2.2.1
          show pmE pg X pg_tyl pg_cl (d + 5) 215 233 [.ref 147, .int (f 4), .int rq6, .int y222] [] (md wc f235 A236) _
          exact pe_vret (by decide +kernel) rfl ⟨f235, A236, rfl, hIq234, (fun k n3 n4 n5 n6 n7 n8 n9 => ((hGq234 k n3 n4 n5 n6 n7 n8)).trans (((hGq203 k n3 n4 n5 n6 n7 n8)).trans ((hGq6 k n3 n4 n5 n6 n7 n8)))), (fun k n148 n150 n151 => ((hFq234 k n148)).trans ((upa_fr eA229 n150).trans (((hFA221 k n150)).trans ((upa_fr eA219 n150).trans (((hFq203 k n148 n151)).trans (((hFA12 k n151)).trans ((hFq6 k n148)))))))), ⟨htx238, hts239, (by rw [show A236 150 = A229 150 from (hFq234 150 (by decide))]; exact TR_up htr230 hp237.1), (by rw [show A236 150 = A229 150 from (hFq234 150 (by decide))]; exact hc0231), trivial⟩⟩
      · skip
        refine pe_aload_n (j := 0) (by decide +kernel) rfl ?_
        refine pe_get (j := 20) (ci := 12) (n := 11) (by decide +kernel) (by decide +kernel) (md_o hc) rfl ?_
        refine pe_iconstv (n := 0) (v := 0) (by decide +kernel) (by decide +kernel) ?_
        refine pe_aload_n (j := 0) (by decide +kernel) rfl ?_
        refine pe_iconstv (n := (-1)) (v := (-1)) (by decide +kernel) (by decide +kernel) ?_
        have htx240 := TX_fr (f2 := f7) (A2 := A12) htx11 (rfl) (rfl) (rfl) (by rw [show f7 9 = f7 9 from rfl]; exact Int.le_refl _) ((hFA12 148 (by decide)))
        have hts241 := TS_w hp10 (Int.le_of_eq (ms_eq (rfl) (rfl) (rfl)).symm)
        refine pz_callV (j := 137) (mj := 212) (by decide +kernel) (cll_V (args := [.int (-1)]) (n := 1) (by decide +kernel) rfl rfl (md_o hc) (by decide +kernel) (Nat.le_of_ble_eq_true rfl) (Nat.le_of_ble_eq_true rfl)) (NM_212 hc hIy14 htx240.2.2.2.2) (fun q242a q242b q242c q242d hqq242 => ?_)
        obtain ⟨f243, A244, rq242, eq242, hIq242, hGq242, hFq242, kq242⟩ := hqq242
        cases eq242
        refine ⟨rfl, rfl, ?_⟩
        obtain ⟨kfq242, kq242⟩ := kq242
        obtain ⟨hp245, hp246, kq242⟩ := kq242
        have htx247 := TX_trans htx240 hp245
        have hts248 := TS_w hts241 hp245.2.2.1
        show pmE pg X pg_tyl pg_cl (d + 5) 215 74 [.ref 147, .int (f 4), .int rq6, .int y13] [.int rq242, .int 0, .ref 151] (md wc f243 A244) _
        refine mz_st151 (by decide +kernel) hc hIq242 kz_0 (by omega) (by omega) (fun A249 eA249 hIA249 => ?_)
        refine pe_aload_n (j := 0) (by decide +kernel) rfl ?_
        refine pe_get (j := 20) (ci := 12) (n := 11) (by decide +kernel) (by decide +kernel) (md_o hc) rfl ?_
        refine pe_iconstv (n := 1) (v := 1) (by decide +kernel) (by decide +kernel) ?_
        refine pe_aload_n (j := 0) (by decide +kernel) rfl ?_
        refine pe_aload_n (j := 0) (by decide +kernel) rfl ?_
        refine pe_get (j := 20) (ci := 12) (n := 11) (by decide +kernel) (by decide +kernel) (md_o hc) rfl ?_
        refine pe_iconstv (n := 0) (v := 0) (by decide +kernel) (by decide +kernel) ?_
        refine pz_iald (by decide +kernel) (md_a151 hc) (mlen_151 hIA249) kz_0 (by omega) (by omega) (fun v250 ev250 => ?_)
        have htx251 := TX_fr (f2 := f243) (A2 := A249) htx247 (rfl) (rfl) (rfl) (by rw [show f243 9 = f243 9 from rfl]; exact Int.le_refl _) (upa_fr eA249 (by decide))
        have hts252 := TS_w hts248 (Int.le_of_eq (ms_eq (rfl) (rfl) (rfl)).symm)
        refine pz_callV (j := 137) (mj := 212) (by decide +kernel) (cll_V (args := [.int v250]) (n := 1) (by decide +kernel) rfl rfl (md_o hc) (by decide +kernel) (Nat.le_of_ble_eq_true rfl) (Nat.le_of_ble_eq_true rfl)) (NM_212 hc hIA249 htx251.2.2.2.2) (fun q253a q253b q253c q253d hqq253 => ?_)
        obtain ⟨f254, A255, rq253, eq253, hIq253, hGq253, hFq253, kq253⟩ := hqq253
        cases eq253
        refine ⟨rfl, rfl, ?_⟩
        obtain ⟨kfq253, kq253⟩ := kq253
        obtain ⟨hp256, hp257, kq253⟩ := kq253
        have htx258 := TX_trans htx251 hp256
        have hts259 := TS_w hts252 hp256.2.2.1
        have hge260 : rq242.toInt ≤ (f254 9).toInt := Int.le_trans hp246 hp256.2.2.2.1
        show pmE pg X pg_tyl pg_cl (d + 5) 215 90 [.ref 147, .int (f 4), .int rq6, .int y13] [.int rq253, .int 1, .ref 151] (md wc f254 A255) _
        refine mz_st151 (by decide +kernel) hc hIq253 kz_1 (by omega) (by omega) (fun A261 eA261 hIA261 => ?_)
        refine pe_aload_n (j := 0) (by decide +kernel) rfl ?_
        refine pe_get (j := 20) (ci := 12) (n := 11) (by decide +kernel) (by decide +kernel) (md_o hc) rfl ?_
        refine pe_iconstv (n := 2) (v := 2) (by decide +kernel) (by decide +kernel) ?_
        refine pe_aload_n (j := 0) (by decide +kernel) rfl ?_
        refine pe_iconstv (n := 1) (v := 1) (by decide +kernel) (by decide +kernel) ?_
        refine pe_bipushv (n := 99) (v := 99) (by decide +kernel) (by decide +kernel) ?_
        have hl262 := kz_1
        have hl263 := kz_99
        have htx264 := TX_fr (f2 := f254) (A2 := A261) htx258 (rfl) (rfl) (rfl) (by rw [show f254 9 = f254 9 from rfl]; exact Int.le_refl _) (upa_fr eA261 (by decide))
        have hts265 := TS_w hts259 (Int.le_of_eq (ms_eq (rfl) (rfl) (rfl)).symm)
        refine pz_callV (j := 130) (mj := 210) (by decide +kernel) (cll_V (args := [.int 99, .int 1]) (n := 2) (by decide +kernel) rfl rfl (md_o hc) (by decide +kernel) (Nat.le_of_ble_eq_true rfl) (Nat.le_of_ble_eq_true rfl)) (NM_210 hc hIA261 (by decide +kernel) (by decide +kernel) (by omega) htx264.2.2.2.2) (fun q266a q266b q266c q266d hqq266 => ?_)
        obtain ⟨f267, A268, rq266, eq266, hIq266, hGq266, hFq266, hX0q266, hX1q266, kq266⟩ := hqq266
        cases eq266
        refine ⟨rfl, rfl, ?_⟩
        obtain ⟨kfq266, kq266⟩ := kq266
        obtain ⟨hp269, hp270, kq266⟩ := kq266
        have htx271 := TX_trans htx264 hp269
        have hts272 := TS_w hts265 hp269.2.2.1
        have hge273 : rq242.toInt ≤ (f267 9).toInt := Int.le_trans hge260 hp269.2.2.2.1
        have hge274 : rq253.toInt ≤ (f267 9).toInt := Int.le_trans hp257 hp269.2.2.2.1
        show pmE pg X pg_tyl pg_cl (d + 5) 215 103 [.ref 147, .int (f 4), .int rq6, .int y13] [.int rq266, .int 2, .ref 151] (md wc f267 A268) _
        refine mz_st151 (by decide +kernel) hc hIq266 kz_2 (by omega) (by omega) (fun A275 eA275 hIA275 => ?_)
        refine pe_iload_n (j := 2) (by decide +kernel) rfl ?_
        refine pe_bipushv (n := 13) (v := 13) (by decide +kernel) (by decide +kernel) ?_
        refine pz_icmp_ne (off := 7) (t := 114) (by decide +kernel) (by decide) rfl rfl kz_13 (fun h276 => ?_) (fun h276 => by omega)
        refine pe_iload_n (j := 2) (by decide +kernel) rfl ?_
        refine pe_bipushv (n := 14) (v := 14) (by decide +kernel) (by decide +kernel) ?_
        refine pz_icmp_ne (off := 16) (t := 133) (by decide +kernel) (by decide) rfl rfl kz_14 (fun h277 => ?_) (fun h277 => by omega)
        refine pe_iload_n (j := 2) (by decide +kernel) rfl ?_
        refine pe_bipushv (n := 15) (v := 15) (by decide +kernel) (by decide +kernel) ?_
        refine pz_icmp_ne (off := 14) (t := 150) (by decide +kernel) (by decide) rfl rfl kz_15 (fun h278 => ?_) (fun h278 => by omega)
        have he280 : fr (A275 151) 0 = rq242.toInt := (congrArg Int32.toInt (show (A275 151).getD 0 0 = rq242 from (el_ne eA275 (by omega)).trans ((el_fr ((hFq266 151 (by decide)))).trans ((el_ne eA261 (by omega)).trans ((el_fr ((hFq253 151 (by decide)))).trans (el_eq eA249 (by rw [(mlen_151 hIq242)]; decide))))))).trans rfl
        have he281 : fr (A275 151) 2 = rq266.toInt := (congrArg Int32.toInt (show (A275 151).getD 2 0 = rq266 from el_eq eA275 (by rw [(mlen_151 hIq266)]; decide))).trans rfl
        have hmra279 : MRA (rq6.toInt - 11) (fr (A275 151) 0) (fr (A275 151) 2) := by
          unfold MRA
          omega
        refine pe_aload_n (j := 0) (by decide +kernel) rfl ?_
        refine pe_get (j := 17) (ci := 12) (n := 10) (by decide +kernel) (by decide +kernel) (md_o hc) rfl ?_
        refine pe_iconstv (n := 0) (v := 0) (by decide +kernel) (by decide +kernel) ?_
        refine pz_iald (by decide +kernel) (md_a150 hc) (mlen_150 hIA275) kz_0 (by omega) (by omega) (fun v282 ev282 => ?_)
        rw [show A275 150 = A 150 from (upa_fr eA275 (by decide)).trans (((hFq266 150 (by decide))).trans ((upa_fr eA261 (by decide)).trans (((hFq253 150 (by decide))).trans ((upa_fr eA249 (by decide)).trans (((hFq242 150 (by decide))).trans (((hFA12 150 (by decide))).trans ((hFq6 150 (by decide)))))))))] at ev282
        rw [ev282.trans ev1.symm]
        clear ev282 v282
        refine pe_bipushv (n := 30) (v := 30) (by decide +kernel) (by decide +kernel) ?_
        refine pz_icmp_ge (off := 61) (t := 219) (by decide +kernel) (by decide) rfl rfl kz_30 (fun h283 => by omega) (fun h283 => ?_)
        refine pe_aload_n (j := 0) (by decide +kernel) rfl ?_
        refine pe_get (j := 17) (ci := 12) (n := 10) (by decide +kernel) (by decide +kernel) (md_o hc) rfl ?_
        refine pe_iconstv (n := 1) (v := 1) (by decide +kernel) (by decide +kernel) ?_
        refine pe_bipushv (n := 9) (v := 9) (by decide +kernel) (by decide +kernel) ?_
        refine pe_aload_n (j := 0) (by decide +kernel) rfl ?_
        refine pe_get (j := 17) (ci := 12) (n := 10) (by decide +kernel) (by decide +kernel) (md_o hc) rfl ?_
        refine pe_iconstv (n := 0) (v := 0) (by decide +kernel) (by decide +kernel) ?_
        refine pz_iald (by decide +kernel) (md_a150 hc) (mlen_150 hIA275) kz_0 (by omega) (by omega) (fun v284 ev284 => ?_)
        rw [show A275 150 = A 150 from (upa_fr eA275 (by decide)).trans (((hFq266 150 (by decide))).trans ((upa_fr eA261 (by decide)).trans (((hFq253 150 (by decide))).trans ((upa_fr eA249 (by decide)).trans (((hFq242 150 (by decide))).trans (((hFA12 150 (by decide))).trans ((hFq6 150 (by decide)))))))))] at ev284
        rw [ev284.trans ev1.symm]
        clear ev284 v284
        refine pz_mul (by decide +kernel) kz_9 rfl (by omega) (by omega) (fun z285 hz285 => ?_)
        refine pz_add (by decide +kernel) kz_1 hz285 (by omega) (by omega) (fun z286 hz286 => ?_)
        clear hz285
        refine pe_iload_n (j := 2) (by decide +kernel) rfl ?_
        refine pe_bipushv (n := 11) (v := 11) (by decide +kernel) (by decide +kernel) ?_
        refine pz_sub (by decide +kernel) rfl kz_11 (by omega) (by omega) (fun z287 hz287 => ?_)
        refine mz_st150 (by decide +kernel) hc hIA275 hz286 (by omega) (by omega) (fun A288 eA288 hIA288 => ?_)
        have htq289 := TQ_zero (e := A288 151) (n := v1.toInt) (v := z287) hpp1 (show fr (A 150) (0) = v1.toInt from congrArg Int32.toInt ev1.symm) (by omega) (by omega) (mlen_150 hI)
        rw [show (A 150).set (1 + 9 * v1.toInt).toNat z287 = A288 150 by rw [upa_at eA288, show A275 150 = A 150 from (upa_fr eA275 (by decide)).trans (((hFq266 150 (by decide))).trans ((upa_fr eA261 (by decide)).trans (((hFq253 150 (by decide))).trans ((upa_fr eA249 (by decide)).trans (((hFq242 150 (by decide))).trans (((hFA12 150 (by decide))).trans ((hFq6 150 (by decide)))))))))]] at htq289
        refine pe_iconstv (n := 0) (v := 0) (by decide +kernel) (by decide +kernel) ?_
        refine pe_istore_n (j := 3) (ls' := [.ref 147, .int (f 4), .int rq6, .int 0]) (by decide +kernel) (Nat.le_of_ble_eq_true rfl) rfl ?_
        refine NL_215_183 (n := v1.toInt) (kd := z287.toInt) hc (by omega) (by omega) (fun A290 y291 hIy292 hFA290 gy291 hp293 => ?_) 9 A288 0 hIA288 (fun k _ => rfl) (by decide +kernel) (by rw [kz_0]; exact htq289) (by decide +kernel)
        have htr294 : TR (A290 150) (fr (A290 148) 3) := TQ_end hp293 (by omega) (by omega) (fun _ => by omega) (by have h := hmra279; rw [← show A288 151 = A275 151 from upa_fr eA288 (by decide)] at h; rw [show z287.toInt = rq6.toInt - 11 from (by omega)]; exact h)
        refine pe_aload_n (j := 0) (by decide +kernel) rfl ?_
        refine pe_get (j := 17) (ci := 12) (n := 10) (by decide +kernel) (by decide +kernel) (md_o hc) rfl ?_
        refine pe_iconstv (n := 0) (v := 0) (by decide +kernel) (by decide +kernel) ?_
        refine pe_dup2 (by decide +kernel) ⟨rfl, rfl⟩ ?_
        refine pz_iald (by decide +kernel) (md_a150 hc) (mlen_150 hIy292) kz_0 (by omega) (by omega) (fun v295 ev295 => ?_)
        have hn0296 : v295.toInt = v1.toInt := by rw [← (show fr (A290 150) (0) = v295.toInt from congrArg Int32.toInt ev295.symm)]; exact hp293.2.1
        refine pe_iconstv (n := 1) (v := 1) (by decide +kernel) (by decide +kernel) ?_
        refine pz_add (by decide +kernel) rfl kz_1 (by omega) (by omega) (fun z297 hz297 => ?_)
        refine mz_st150 (by decide +kernel) hc hIy292 kz_0 (by omega) (by omega) (fun A298 eA298 hIA298 => ?_)
        have htr299 : TR (A298 150) (fr (A298 148) 3) := by rw [upa_at eA298, upa_fr eA298 (by decide : (148 : Nat) ≠ 150)]; exact TR_many htr294 (mlen_150 hIy292) (by omega) (by intro z; omega)
        have hc0300 : fr (A298 150) 0 ≤ fr (A 150) 0 + 1 := by rw [upa_at eA298, fr_eq (by decide) (by rw [mlen_150 hIy292]; decide), (show fr (A 150) (0) = v1.toInt from congrArg Int32.toInt ev1.symm)]; omega
        refine pe_aload_n (j := 0) (by decide +kernel) rfl ?_
        have htx301 := TX_fr (f2 := f267) (A2 := A298) htx271 (rfl) (rfl) (rfl) (by rw [show f267 9 = f267 9 from rfl]; exact Int.le_refl _) ((upa_fr eA298 (by decide)).trans (((hFA290 148 (by decide))).trans ((upa_fr eA288 (by decide)).trans (upa_fr eA275 (by decide)))))
        have hts302 := TS_w hts272 (Int.le_of_eq (ms_eq (rfl) (rfl) (rfl)).symm)
        refine pz_callV (j := 147) (mj := 214) (by decide +kernel) (cll_V (args := []) (n := 0) (by decide +kernel) rfl rfl (md_o hc) (by decide +kernel) (Nat.le_of_ble_eq_true rfl) (Nat.le_of_ble_eq_true rfl)) (NM_214 hc hIA298 htx301.2.2.2.2) (fun q303a q303b q303c q303d hqq303 => ?_)
        obtain ⟨f304, A305, eq303, hIq303, hGq303, hFq303, kq303⟩ := hqq303
        cases eq303
        refine ⟨rfl, rfl, ?_⟩
        obtain ⟨hp306, kq303⟩ := kq303
        have htx307 := TX_trans htx301 hp306
        have hts308 := TS_w hts302 hp306.2.2.1
        have hge309 : rq242.toInt ≤ (f304 9).toInt := Int.le_trans hge273 hp306.2.2.2.1
        have hge310 : rq253.toInt ≤ (f304 9).toInt := Int.le_trans hge274 hp306.2.2.2.1
        show pmE pg X pg_tyl pg_cl (d + 5) 215 233 [.ref 147, .int (f 4), .int rq6, .int y291] [] (md wc f304 A305) _
        exact pe_vret (by decide +kernel) rfl ⟨f304, A305, rfl, hIq303, (fun k n3 n4 n5 n6 n7 n8 n9 => ((hGq303 k n3 n4 n5 n6 n7 n8)).trans (((hGq266 k n3 n4 n5 n6 n7 n8)).trans (((hGq253 k n3 n4 n5 n6 n7 n8 n9)).trans (((hGq242 k n3 n4 n5 n6 n7 n8 n9)).trans ((hGq6 k n3 n4 n5 n6 n7 n8)))))), (fun k n148 n150 n151 => ((hFq303 k n148)).trans ((upa_fr eA298 n150).trans (((hFA290 k n150)).trans ((upa_fr eA288 n150).trans ((upa_fr eA275 n151).trans (((hFq266 k n148)).trans ((upa_fr eA261 n151).trans (((hFq253 k n148)).trans ((upa_fr eA249 n151).trans (((hFq242 k n148)).trans (((hFA12 k n151)).trans ((hFq6 k n148))))))))))))), ⟨htx307, hts308, (by rw [show A305 150 = A298 150 from (hFq303 150 (by decide))]; exact TR_up htr299 hp306.1), (by rw [show A305 150 = A298 150 from (hFq303 150 (by decide))]; exact hc0300), trivial⟩⟩
  · skip
    refine pe_aload_n (j := 0) (by decide +kernel) rfl ?_
    refine pe_iconstv (n := 3) (v := 3) (by decide +kernel) (by decide +kernel) ?_
    refine pe_iload_n (j := 1) (by decide +kernel) rfl ?_
    have htx311 : TX f f A A := TX_refl hpp0
    refine pz_callV (j := 123) (mj := 211) (by decide +kernel) (cll_V (args := [.int (f 4), .int 3]) (n := 2) (by decide +kernel) rfl rfl (md_o hc) (by decide +kernel) (Nat.le_of_ble_eq_true rfl) (Nat.le_of_ble_eq_true rfl)) (NM_211 hc hI (by decide +kernel) htx311.2.2.2.2) (fun q312a q312b q312c q312d hqq312 => ?_)
    obtain ⟨A313, eq312, hIq312, hFq312, kq312⟩ := hqq312
    cases eq312
    refine ⟨rfl, rfl, ?_⟩
    obtain ⟨hp314, hp315, kq312⟩ := kq312
    have htx316 := TX_trans htx311 hp314
    show pmE pg X pg_tyl pg_cl (d + 5) 215 22 [.ref 147, .int (f 4), pm_dead, pm_dead] [] (md wc f A313) _
    refine pe_aload_n (j := 0) (by decide +kernel) rfl ?_
    refine pe_bipushv (n := 11) (v := 11) (by decide +kernel) (by decide +kernel) ?_
    refine pe_bipushv (n := 16) (v := 16) (by decide +kernel) (by decide +kernel) ?_
    refine pz_callV (j := 140) (mj := 208) (by decide +kernel) (cll_V (args := [.int 16, .int 11]) (n := 2) (by decide +kernel) rfl rfl (md_o hc) (by decide +kernel) (Nat.le_of_ble_eq_true rfl) (Nat.le_of_ble_eq_true rfl)) (NM_208 hc hIq312 (by decide +kernel) (by decide +kernel) htx316.2.2.2.2) (fun q317a q317b q317c q317d hqq317 => ?_)
    obtain ⟨f318, A319, rq317, eq317, hIq317, hGq317, hFq317, kq317⟩ := hqq317
    cases eq317
    refine ⟨rfl, rfl, ?_⟩
    obtain ⟨kfq317, kq317⟩ := kq317
    obtain ⟨hp320, hp321, kq317⟩ := kq317
    have htx322 := TX_trans htx316 hp320
    have hft323 := hp320.1 hp315
    show pmE pg X pg_tyl pg_cl (d + 5) 215 30 [.ref 147, .int (f 4), pm_dead, pm_dead] [.int rq317] (md wc f318 A319) _
    refine pe_istore_n (j := 2) (ls' := [.ref 147, .int (f 4), .int rq317, pm_dead]) (by decide +kernel) (Nat.le_of_ble_eq_true rfl) rfl ?_
    refine pe_iconstv (n := 0) (v := 0) (by decide +kernel) (by decide +kernel) ?_
    refine pe_istore_n (j := 3) (ls' := [.ref 147, .int (f 4), .int rq317, .int 0]) (by decide +kernel) (Nat.le_of_ble_eq_true rfl) rfl ?_
    refine NL_215_33 hc (by omega) (fun A324 y325 hIy326 hFA324 gy325 => ?_) 9 A319 0 hIq317 (fun k _ => rfl) (by decide +kernel) (by decide +kernel)
    refine pe_iload_n (j := 2) (by decide +kernel) rfl ?_
    refine pe_bipushv (n := 11) (v := 11) (by decide +kernel) (by decide +kernel) ?_
    refine pz_icmp_eq (off := 9) (t := 64) (by decide +kernel) (by decide) rfl rfl kz_11 (fun h327 => ?_) (fun h327 => ?_)
    · skip
      refine pe_aload_n (j := 0) (by decide +kernel) rfl ?_
      refine pe_get (j := 20) (ci := 12) (n := 11) (by decide +kernel) (by decide +kernel) (md_o hc) rfl ?_
      refine pe_iconstv (n := 0) (v := 0) (by decide +kernel) (by decide +kernel) ?_
      refine pe_aload_n (j := 0) (by decide +kernel) rfl ?_
      refine pe_iconstv (n := (-1)) (v := (-1)) (by decide +kernel) (by decide +kernel) ?_
      have htx328 := TX_fr (f2 := f318) (A2 := A324) htx322 (rfl) (rfl) (rfl) (by rw [show f318 9 = f318 9 from rfl]; exact Int.le_refl _) ((hFA324 148 (by decide)))
      have hts329 := TS_w hp321 (Int.le_of_eq (ms_eq (rfl) (rfl) (rfl)).symm)
      refine pz_callV (j := 137) (mj := 212) (by decide +kernel) (cll_V (args := [.int (-1)]) (n := 1) (by decide +kernel) rfl rfl (md_o hc) (by decide +kernel) (Nat.le_of_ble_eq_true rfl) (Nat.le_of_ble_eq_true rfl)) (NM_212 hc hIy326 htx328.2.2.2.2) (fun q330a q330b q330c q330d hqq330 => ?_)
      obtain ⟨f331, A332, rq330, eq330, hIq330, hGq330, hFq330, kq330⟩ := hqq330
      cases eq330
      refine ⟨rfl, rfl, ?_⟩
      obtain ⟨kfq330, kq330⟩ := kq330
      obtain ⟨hp333, hp334, kq330⟩ := kq330
      have htx335 := TX_trans htx328 hp333
      have hts336 := TS_w hts329 hp333.2.2.1
      have hft337 := hp333.1 (by rw [show A324 148 = A319 148 from (hFA324 148 (by decide))]; exact hft323)
      show pmE pg X pg_tyl pg_cl (d + 5) 215 74 [.ref 147, .int (f 4), .int rq317, .int y325] [.int rq330, .int 0, .ref 151] (md wc f331 A332) _
      refine mz_st151 (by decide +kernel) hc hIq330 kz_0 (by omega) (by omega) (fun A338 eA338 hIA338 => ?_)
      refine pe_aload_n (j := 0) (by decide +kernel) rfl ?_
      refine pe_get (j := 20) (ci := 12) (n := 11) (by decide +kernel) (by decide +kernel) (md_o hc) rfl ?_
      refine pe_iconstv (n := 1) (v := 1) (by decide +kernel) (by decide +kernel) ?_
      refine pe_aload_n (j := 0) (by decide +kernel) rfl ?_
      refine pe_aload_n (j := 0) (by decide +kernel) rfl ?_
      refine pe_get (j := 20) (ci := 12) (n := 11) (by decide +kernel) (by decide +kernel) (md_o hc) rfl ?_
      refine pe_iconstv (n := 0) (v := 0) (by decide +kernel) (by decide +kernel) ?_
      refine pz_iald (by decide +kernel) (md_a151 hc) (mlen_151 hIA338) kz_0 (by omega) (by omega) (fun v339 ev339 => ?_)
      have htx340 := TX_fr (f2 := f331) (A2 := A338) htx335 (rfl) (rfl) (rfl) (by rw [show f331 9 = f331 9 from rfl]; exact Int.le_refl _) (upa_fr eA338 (by decide))
      have hts341 := TS_w hts336 (Int.le_of_eq (ms_eq (rfl) (rfl) (rfl)).symm)
      refine pz_callV (j := 137) (mj := 212) (by decide +kernel) (cll_V (args := [.int v339]) (n := 1) (by decide +kernel) rfl rfl (md_o hc) (by decide +kernel) (Nat.le_of_ble_eq_true rfl) (Nat.le_of_ble_eq_true rfl)) (NM_212 hc hIA338 htx340.2.2.2.2) (fun q342a q342b q342c q342d hqq342 => ?_)
      obtain ⟨f343, A344, rq342, eq342, hIq342, hGq342, hFq342, kq342⟩ := hqq342
      cases eq342
      refine ⟨rfl, rfl, ?_⟩
      obtain ⟨kfq342, kq342⟩ := kq342
      obtain ⟨hp345, hp346, kq342⟩ := kq342
      have htx347 := TX_trans htx340 hp345
      have hts348 := TS_w hts341 hp345.2.2.1
      have hge349 : rq330.toInt ≤ (f343 9).toInt := Int.le_trans hp334 hp345.2.2.2.1
      have hft350 := hp345.1 (by rw [show A338 148 = A332 148 from upa_fr eA338 (by decide)]; exact hft337)
      show pmE pg X pg_tyl pg_cl (d + 5) 215 90 [.ref 147, .int (f 4), .int rq317, .int y325] [.int rq342, .int 1, .ref 151] (md wc f343 A344) _
      refine mz_st151 (by decide +kernel) hc hIq342 kz_1 (by omega) (by omega) (fun A351 eA351 hIA351 => ?_)
      refine pe_aload_n (j := 0) (by decide +kernel) rfl ?_
      refine pe_get (j := 20) (ci := 12) (n := 11) (by decide +kernel) (by decide +kernel) (md_o hc) rfl ?_
      refine pe_iconstv (n := 2) (v := 2) (by decide +kernel) (by decide +kernel) ?_
      refine pe_aload_n (j := 0) (by decide +kernel) rfl ?_
      refine pe_iconstv (n := 1) (v := 1) (by decide +kernel) (by decide +kernel) ?_
      refine pe_bipushv (n := 99) (v := 99) (by decide +kernel) (by decide +kernel) ?_
      have hl352 := kz_1
      have hl353 := kz_99
      have htx354 := TX_fr (f2 := f343) (A2 := A351) htx347 (rfl) (rfl) (rfl) (by rw [show f343 9 = f343 9 from rfl]; exact Int.le_refl _) (upa_fr eA351 (by decide))
      have hts355 := TS_w hts348 (Int.le_of_eq (ms_eq (rfl) (rfl) (rfl)).symm)
      refine pz_callV (j := 130) (mj := 210) (by decide +kernel) (cll_V (args := [.int 99, .int 1]) (n := 2) (by decide +kernel) rfl rfl (md_o hc) (by decide +kernel) (Nat.le_of_ble_eq_true rfl) (Nat.le_of_ble_eq_true rfl)) (NM_210 hc hIA351 (by decide +kernel) (by decide +kernel) (by omega) htx354.2.2.2.2) (fun q356a q356b q356c q356d hqq356 => ?_)
      obtain ⟨f357, A358, rq356, eq356, hIq356, hGq356, hFq356, hX0q356, hX1q356, kq356⟩ := hqq356
      cases eq356
      refine ⟨rfl, rfl, ?_⟩
      obtain ⟨kfq356, kq356⟩ := kq356
      obtain ⟨hp359, hp360, kq356⟩ := kq356
      have htx361 := TX_trans htx354 hp359
      have hts362 := TS_w hts355 hp359.2.2.1
      have hge363 : rq330.toInt ≤ (f357 9).toInt := Int.le_trans hge349 hp359.2.2.2.1
      have hge364 : rq342.toInt ≤ (f357 9).toInt := Int.le_trans hp346 hp359.2.2.2.1
      have hft365 := hp359.1 (by rw [show A351 148 = A344 148 from upa_fr eA351 (by decide)]; exact hft350)
      show pmE pg X pg_tyl pg_cl (d + 5) 215 103 [.ref 147, .int (f 4), .int rq317, .int y325] [.int rq356, .int 2, .ref 151] (md wc f357 A358) _
      refine mz_st151 (by decide +kernel) hc hIq356 kz_2 (by omega) (by omega) (fun A366 eA366 hIA366 => ?_)
      refine pe_iload_n (j := 2) (by decide +kernel) rfl ?_
      refine pe_bipushv (n := 13) (v := 13) (by decide +kernel) (by decide +kernel) ?_
      refine pz_icmp_ne (off := 7) (t := 114) (by decide +kernel) (by decide) rfl rfl kz_13 (fun h367 => ?_) (fun h367 => by omega)
      refine pe_iload_n (j := 2) (by decide +kernel) rfl ?_
      refine pe_bipushv (n := 14) (v := 14) (by decide +kernel) (by decide +kernel) ?_
      refine pz_icmp_ne (off := 16) (t := 133) (by decide +kernel) (by decide) rfl rfl kz_14 (fun h368 => ?_) (fun h368 => by omega)
      refine pe_iload_n (j := 2) (by decide +kernel) rfl ?_
      refine pe_bipushv (n := 15) (v := 15) (by decide +kernel) (by decide +kernel) ?_
      refine pz_icmp_ne (off := 14) (t := 150) (by decide +kernel) (by decide) rfl rfl kz_15 (fun h369 => ?_) (fun h369 => by omega)
      have he371 : fr (A366 151) 0 = rq330.toInt := (congrArg Int32.toInt (show (A366 151).getD 0 0 = rq330 from (el_ne eA366 (by omega)).trans ((el_fr ((hFq356 151 (by decide)))).trans ((el_ne eA351 (by omega)).trans ((el_fr ((hFq342 151 (by decide)))).trans (el_eq eA338 (by rw [(mlen_151 hIq330)]; decide))))))).trans rfl
      have he372 : fr (A366 151) 2 = rq356.toInt := (congrArg Int32.toInt (show (A366 151).getD 2 0 = rq356 from el_eq eA366 (by rw [(mlen_151 hIq356)]; decide))).trans rfl
      have hmra370 : MRA (rq317.toInt - 11) (fr (A366 151) 0) (fr (A366 151) 2) := by
        unfold MRA
        omega
      refine pe_aload_n (j := 0) (by decide +kernel) rfl ?_
      refine pe_get (j := 17) (ci := 12) (n := 10) (by decide +kernel) (by decide +kernel) (md_o hc) rfl ?_
      refine pe_iconstv (n := 0) (v := 0) (by decide +kernel) (by decide +kernel) ?_
      refine pz_iald (by decide +kernel) (md_a150 hc) (mlen_150 hIA366) kz_0 (by omega) (by omega) (fun v373 ev373 => ?_)
      rw [show A366 150 = A 150 from (upa_fr eA366 (by decide)).trans (((hFq356 150 (by decide))).trans ((upa_fr eA351 (by decide)).trans (((hFq342 150 (by decide))).trans ((upa_fr eA338 (by decide)).trans (((hFq330 150 (by decide))).trans (((hFA324 150 (by decide))).trans (((hFq317 150 (by decide))).trans ((hFq312 150 (by decide))))))))))] at ev373
      rw [ev373.trans ev1.symm]
      clear ev373 v373
      refine pe_bipushv (n := 30) (v := 30) (by decide +kernel) (by decide +kernel) ?_
      refine pz_icmp_ge (off := 61) (t := 219) (by decide +kernel) (by decide) rfl rfl kz_30 (fun h374 => ?_) (fun h374 => by omega)
      have htx376 := TX_fr (f2 := f357) (A2 := A366) htx361 (rfl) (rfl) (rfl) (by rw [show f357 9 = f357 9 from rfl]; exact Int.le_refl _) (upa_fr eA366 (by decide))
      have hts377 := TS_w hts362 (Int.le_of_eq (ms_eq (rfl) (rfl) (rfl)).symm)
      have htr375 : TR (A366 150) (fr (A366 148) 3) := by rw [show A366 150 = A 150 from (upa_fr eA366 (by decide)).trans (((hFq356 150 (by decide))).trans ((upa_fr eA351 (by decide)).trans (((hFq342 150 (by decide))).trans ((upa_fr eA338 (by decide)).trans (((hFq330 150 (by decide))).trans (((hFA324 150 (by decide))).trans (((hFq317 150 (by decide))).trans ((hFq312 150 (by decide))))))))))]; exact TR_up hpp1 htx376.1
      refine pe_aload_n (j := 0) (by decide +kernel) rfl ?_
      refine pe_get (j := 17) (ci := 12) (n := 10) (by decide +kernel) (by decide +kernel) (md_o hc) rfl ?_
      refine pe_iconstv (n := 0) (v := 0) (by decide +kernel) (by decide +kernel) ?_
      refine pe_dup2 (by decide +kernel) ⟨rfl, rfl⟩ ?_
      refine pz_iald (by decide +kernel) (md_a150 hc) (mlen_150 hIA366) kz_0 (by omega) (by omega) (fun v378 ev378 => ?_)
      rw [show A366 150 = A 150 from (upa_fr eA366 (by decide)).trans (((hFq356 150 (by decide))).trans ((upa_fr eA351 (by decide)).trans (((hFq342 150 (by decide))).trans ((upa_fr eA338 (by decide)).trans (((hFq330 150 (by decide))).trans (((hFA324 150 (by decide))).trans (((hFq317 150 (by decide))).trans ((hFq312 150 (by decide))))))))))] at ev378
      rw [ev378.trans ev1.symm]
      clear ev378 v378
      refine pe_iconstv (n := 1) (v := 1) (by decide +kernel) (by decide +kernel) ?_
      refine pz_add (by decide +kernel) rfl kz_1 (by omega) (by omega) (fun z379 hz379 => ?_)
      refine mz_st150 (by decide +kernel) hc hIA366 kz_0 (by omega) (by omega) (fun A380 eA380 hIA380 => ?_)
      have htr381 : TR (A380 150) (fr (A380 148) 3) := by rw [upa_at eA380, upa_fr eA380 (by decide : (148 : Nat) ≠ 150)]; exact TR_many htr375 (mlen_150 hIA366) (by omega) (by have hft := hft365; rw [← show A366 148 = A358 148 from upa_fr eA366 (by decide)] at hft; intro z; omega)
      have hc0382 : fr (A380 150) 0 ≤ fr (A 150) 0 + 1 := by rw [upa_at eA380, fr_eq (by decide) (by rw [mlen_150 hIA366]; decide), (show fr (A 150) (0) = v1.toInt from congrArg Int32.toInt ev1.symm)]; omega
      refine pe_aload_n (j := 0) (by decide +kernel) rfl ?_
      have htx383 := TX_fr (f2 := f357) (A2 := A380) htx376 (rfl) (rfl) (rfl) (by rw [show f357 9 = f357 9 from rfl]; exact Int.le_refl _) (upa_fr eA380 (by decide))
      have hts384 := TS_w hts377 (Int.le_of_eq (ms_eq (rfl) (rfl) (rfl)).symm)
      refine pz_callV (j := 147) (mj := 214) (by decide +kernel) (cll_V (args := []) (n := 0) (by decide +kernel) rfl rfl (md_o hc) (by decide +kernel) (Nat.le_of_ble_eq_true rfl) (Nat.le_of_ble_eq_true rfl)) (NM_214 hc hIA380 htx383.2.2.2.2) (fun q385a q385b q385c q385d hqq385 => ?_)
      obtain ⟨f386, A387, eq385, hIq385, hGq385, hFq385, kq385⟩ := hqq385
      cases eq385
      refine ⟨rfl, rfl, ?_⟩
      obtain ⟨hp388, kq385⟩ := kq385
      have htx389 := TX_trans htx383 hp388
      have hts390 := TS_w hts384 hp388.2.2.1
      have hge391 : rq330.toInt ≤ (f386 9).toInt := Int.le_trans hge363 hp388.2.2.2.1
      have hge392 : rq342.toInt ≤ (f386 9).toInt := Int.le_trans hge364 hp388.2.2.2.1
      have hft393 := hp388.1 (by rw [show A380 148 = A358 148 from (upa_fr eA380 (by decide)).trans (upa_fr eA366 (by decide))]; exact hft365)
      show pmE pg X pg_tyl pg_cl (d + 5) 215 233 [.ref 147, .int (f 4), .int rq317, .int y325] [] (md wc f386 A387) _
      exact pe_vret (by decide +kernel) rfl ⟨f386, A387, rfl, hIq385, (fun k n3 n4 n5 n6 n7 n8 n9 => ((hGq385 k n3 n4 n5 n6 n7 n8)).trans (((hGq356 k n3 n4 n5 n6 n7 n8)).trans (((hGq342 k n3 n4 n5 n6 n7 n8 n9)).trans (((hGq330 k n3 n4 n5 n6 n7 n8 n9)).trans ((hGq317 k n3 n4 n5 n6 n7 n8)))))), (fun k n148 n150 n151 => ((hFq385 k n148)).trans ((upa_fr eA380 n150).trans ((upa_fr eA366 n151).trans (((hFq356 k n148)).trans ((upa_fr eA351 n151).trans (((hFq342 k n148)).trans ((upa_fr eA338 n151).trans (((hFq330 k n148)).trans (((hFA324 k n151)).trans (((hFq317 k n148)).trans ((hFq312 k n148)))))))))))), ⟨htx389, hts390, (by rw [show A387 150 = A380 150 from (hFq385 150 (by decide))]; exact TR_up htr381 hp388.1), (by rw [show A387 150 = A380 150 from (hFq385 150 (by decide))]; exact hc0382), trivial⟩⟩
    · skip
      refine pe_iload_n (j := 2) (by decide +kernel) rfl ?_
      refine pe_bipushv (n := 12) (v := 12) (by decide +kernel) (by decide +kernel) ?_
      refine pz_icmp_ne (off := 43) (t := 104) (by decide +kernel) (by decide) rfl rfl kz_12 (fun h394 => ?_) (fun h394 => ?_)
      · skip
        refine pe_iload_n (j := 2) (by decide +kernel) rfl ?_
        refine pe_bipushv (n := 13) (v := 13) (by decide +kernel) (by decide +kernel) ?_
        refine pz_icmp_ne (off := 7) (t := 114) (by decide +kernel) (by decide) rfl rfl kz_13 (fun h395 => ?_) (fun h395 => ?_)
        · skip
          refine pe_iload_n (j := 2) (by decide +kernel) rfl ?_
          refine pe_bipushv (n := 14) (v := 14) (by decide +kernel) (by decide +kernel) ?_
          refine pz_icmp_ne (off := 16) (t := 133) (by decide +kernel) (by decide) rfl rfl kz_14 (fun h396 => ?_) (fun h396 => ?_)
          · skip
            refine pe_iload_n (j := 2) (by decide +kernel) rfl ?_
            refine pe_bipushv (n := 15) (v := 15) (by decide +kernel) (by decide +kernel) ?_
            refine pz_icmp_ne (off := 14) (t := 150) (by decide +kernel) (by decide) rfl rfl kz_15 (fun h397 => ?_) (fun h397 => ?_)
            · skip
              have hmra398 : MRA (rq317.toInt - 11) (fr (A324 151) 0) (fr (A324 151) 2) := by
                unfold MRA
                omega
              refine pe_aload_n (j := 0) (by decide +kernel) rfl ?_
              refine pe_get (j := 17) (ci := 12) (n := 10) (by decide +kernel) (by decide +kernel) (md_o hc) rfl ?_
              refine pe_iconstv (n := 0) (v := 0) (by decide +kernel) (by decide +kernel) ?_
              refine pz_iald (by decide +kernel) (md_a150 hc) (mlen_150 hIy326) kz_0 (by omega) (by omega) (fun v399 ev399 => ?_)
              rw [show A324 150 = A 150 from ((hFA324 150 (by decide))).trans (((hFq317 150 (by decide))).trans ((hFq312 150 (by decide))))] at ev399
              rw [ev399.trans ev1.symm]
              clear ev399 v399
              refine pe_bipushv (n := 30) (v := 30) (by decide +kernel) (by decide +kernel) ?_
              refine pz_icmp_ge (off := 61) (t := 219) (by decide +kernel) (by decide) rfl rfl kz_30 (fun h400 => ?_) (fun h400 => by omega)
              have htx402 := TX_fr (f2 := f318) (A2 := A324) htx322 (rfl) (rfl) (rfl) (by rw [show f318 9 = f318 9 from rfl]; exact Int.le_refl _) ((hFA324 148 (by decide)))
              have hts403 := TS_w hp321 (Int.le_of_eq (ms_eq (rfl) (rfl) (rfl)).symm)
              have htr401 : TR (A324 150) (fr (A324 148) 3) := by rw [show A324 150 = A 150 from ((hFA324 150 (by decide))).trans (((hFq317 150 (by decide))).trans ((hFq312 150 (by decide))))]; exact TR_up hpp1 htx402.1
              refine pe_aload_n (j := 0) (by decide +kernel) rfl ?_
              refine pe_get (j := 17) (ci := 12) (n := 10) (by decide +kernel) (by decide +kernel) (md_o hc) rfl ?_
              refine pe_iconstv (n := 0) (v := 0) (by decide +kernel) (by decide +kernel) ?_
              refine pe_dup2 (by decide +kernel) ⟨rfl, rfl⟩ ?_
              refine pz_iald (by decide +kernel) (md_a150 hc) (mlen_150 hIy326) kz_0 (by omega) (by omega) (fun v404 ev404 => ?_)
              rw [show A324 150 = A 150 from ((hFA324 150 (by decide))).trans (((hFq317 150 (by decide))).trans ((hFq312 150 (by decide))))] at ev404
              rw [ev404.trans ev1.symm]
              clear ev404 v404
              refine pe_iconstv (n := 1) (v := 1) (by decide +kernel) (by decide +kernel) ?_
              refine pz_add (by decide +kernel) rfl kz_1 (by omega) (by omega) (fun z405 hz405 => ?_)
              refine mz_st150 (by decide +kernel) hc hIy326 kz_0 (by omega) (by omega) (fun A406 eA406 hIA406 => ?_)
              have htr407 : TR (A406 150) (fr (A406 148) 3) := by rw [upa_at eA406, upa_fr eA406 (by decide : (148 : Nat) ≠ 150)]; exact TR_many htr401 (mlen_150 hIy326) (by omega) (by have hft := hft323; rw [← show A324 148 = A319 148 from (hFA324 148 (by decide))] at hft; intro z; omega)
              have hc0408 : fr (A406 150) 0 ≤ fr (A 150) 0 + 1 := by rw [upa_at eA406, fr_eq (by decide) (by rw [mlen_150 hIy326]; decide), (show fr (A 150) (0) = v1.toInt from congrArg Int32.toInt ev1.symm)]; omega
              refine pe_aload_n (j := 0) (by decide +kernel) rfl ?_
              have htx409 := TX_fr (f2 := f318) (A2 := A406) htx402 (rfl) (rfl) (rfl) (by rw [show f318 9 = f318 9 from rfl]; exact Int.le_refl _) (upa_fr eA406 (by decide))
              have hts410 := TS_w hts403 (Int.le_of_eq (ms_eq (rfl) (rfl) (rfl)).symm)
              refine pz_callV (j := 147) (mj := 214) (by decide +kernel) (cll_V (args := []) (n := 0) (by decide +kernel) rfl rfl (md_o hc) (by decide +kernel) (Nat.le_of_ble_eq_true rfl) (Nat.le_of_ble_eq_true rfl)) (NM_214 hc hIA406 htx409.2.2.2.2) (fun q411a q411b q411c q411d hqq411 => ?_)
              obtain ⟨f412, A413, eq411, hIq411, hGq411, hFq411, kq411⟩ := hqq411
              cases eq411
              refine ⟨rfl, rfl, ?_⟩
              obtain ⟨hp414, kq411⟩ := kq411
              have htx415 := TX_trans htx409 hp414
              have hts416 := TS_w hts410 hp414.2.2.1
              have hft417 := hp414.1 (by rw [show A406 148 = A319 148 from (upa_fr eA406 (by decide)).trans ((hFA324 148 (by decide)))]; exact hft323)
              show pmE pg X pg_tyl pg_cl (d + 5) 215 233 [.ref 147, .int (f 4), .int rq317, .int y325] [] (md wc f412 A413) _
              exact pe_vret (by decide +kernel) rfl ⟨f412, A413, rfl, hIq411, (fun k n3 n4 n5 n6 n7 n8 n9 => ((hGq411 k n3 n4 n5 n6 n7 n8)).trans ((hGq317 k n3 n4 n5 n6 n7 n8))), (fun k n148 n150 n151 => ((hFq411 k n148)).trans ((upa_fr eA406 n150).trans (((hFA324 k n151)).trans (((hFq317 k n148)).trans ((hFq312 k n148)))))), ⟨htx415, hts416, (by rw [show A413 150 = A406 150 from (hFq411 150 (by decide))]; exact TR_up htr407 hp414.1), (by rw [show A413 150 = A406 150 from (hFq411 150 (by decide))]; exact hc0408), trivial⟩⟩
            · skip
              refine pe_aload_n (j := 0) (by decide +kernel) rfl ?_
              refine pe_get (j := 20) (ci := 12) (n := 11) (by decide +kernel) (by decide +kernel) (md_o hc) rfl ?_
              refine pe_iconstv (n := 0) (v := 0) (by decide +kernel) (by decide +kernel) ?_
              refine pe_aload_n (j := 0) (by decide +kernel) rfl ?_
              refine pe_iconstv (n := (-1)) (v := (-1)) (by decide +kernel) (by decide +kernel) ?_
              have htx418 := TX_fr (f2 := f318) (A2 := A324) htx322 (rfl) (rfl) (rfl) (by rw [show f318 9 = f318 9 from rfl]; exact Int.le_refl _) ((hFA324 148 (by decide)))
              have hts419 := TS_w hp321 (Int.le_of_eq (ms_eq (rfl) (rfl) (rfl)).symm)
              refine pz_callV (j := 137) (mj := 212) (by decide +kernel) (cll_V (args := [.int (-1)]) (n := 1) (by decide +kernel) rfl rfl (md_o hc) (by decide +kernel) (Nat.le_of_ble_eq_true rfl) (Nat.le_of_ble_eq_true rfl)) (NM_212 hc hIy326 htx418.2.2.2.2) (fun q420a q420b q420c q420d hqq420 => ?_)
              obtain ⟨f421, A422, rq420, eq420, hIq420, hGq420, hFq420, kq420⟩ := hqq420
              cases eq420
              refine ⟨rfl, rfl, ?_⟩
              obtain ⟨kfq420, kq420⟩ := kq420
              obtain ⟨hp423, hp424, kq420⟩ := kq420
              have htx425 := TX_trans htx418 hp423
              have hts426 := TS_w hts419 hp423.2.2.1
              have hft427 := hp423.1 (by rw [show A324 148 = A319 148 from (hFA324 148 (by decide))]; exact hft323)
              show pmE pg X pg_tyl pg_cl (d + 5) 215 149 [.ref 147, .int (f 4), .int rq317, .int y325] [.int rq420, .int 0, .ref 151] (md wc f421 A422) _
              refine mz_st151 (by decide +kernel) hc hIq420 kz_0 (by omega) (by omega) (fun A428 eA428 hIA428 => ?_)
              have he430 : fr (A428 151) 0 = rq420.toInt := (congrArg Int32.toInt (show (A428 151).getD 0 0 = rq420 from el_eq eA428 (by rw [(mlen_151 hIq420)]; decide))).trans rfl
              have hmra429 : MRA (rq317.toInt - 11) (fr (A428 151) 0) (fr (A428 151) 2) := by
                unfold MRA
                omega
              refine pe_aload_n (j := 0) (by decide +kernel) rfl ?_
              refine pe_get (j := 17) (ci := 12) (n := 10) (by decide +kernel) (by decide +kernel) (md_o hc) rfl ?_
              refine pe_iconstv (n := 0) (v := 0) (by decide +kernel) (by decide +kernel) ?_
              refine pz_iald (by decide +kernel) (md_a150 hc) (mlen_150 hIA428) kz_0 (by omega) (by omega) (fun v431 ev431 => ?_)
              rw [show A428 150 = A 150 from (upa_fr eA428 (by decide)).trans (((hFq420 150 (by decide))).trans (((hFA324 150 (by decide))).trans (((hFq317 150 (by decide))).trans ((hFq312 150 (by decide))))))] at ev431
              rw [ev431.trans ev1.symm]
              clear ev431 v431
              refine pe_bipushv (n := 30) (v := 30) (by decide +kernel) (by decide +kernel) ?_
              refine pz_icmp_ge (off := 61) (t := 219) (by decide +kernel) (by decide) rfl rfl kz_30 (fun h432 => ?_) (fun h432 => by omega)
              have htx434 := TX_fr (f2 := f421) (A2 := A428) htx425 (rfl) (rfl) (rfl) (by rw [show f421 9 = f421 9 from rfl]; exact Int.le_refl _) (upa_fr eA428 (by decide))
              have hts435 := TS_w hts426 (Int.le_of_eq (ms_eq (rfl) (rfl) (rfl)).symm)
              have htr433 : TR (A428 150) (fr (A428 148) 3) := by rw [show A428 150 = A 150 from (upa_fr eA428 (by decide)).trans (((hFq420 150 (by decide))).trans (((hFA324 150 (by decide))).trans (((hFq317 150 (by decide))).trans ((hFq312 150 (by decide))))))]; exact TR_up hpp1 htx434.1
              refine pe_aload_n (j := 0) (by decide +kernel) rfl ?_
              refine pe_get (j := 17) (ci := 12) (n := 10) (by decide +kernel) (by decide +kernel) (md_o hc) rfl ?_
              refine pe_iconstv (n := 0) (v := 0) (by decide +kernel) (by decide +kernel) ?_
              refine pe_dup2 (by decide +kernel) ⟨rfl, rfl⟩ ?_
              refine pz_iald (by decide +kernel) (md_a150 hc) (mlen_150 hIA428) kz_0 (by omega) (by omega) (fun v436 ev436 => ?_)
              rw [show A428 150 = A 150 from (upa_fr eA428 (by decide)).trans (((hFq420 150 (by decide))).trans (((hFA324 150 (by decide))).trans (((hFq317 150 (by decide))).trans ((hFq312 150 (by decide))))))] at ev436
              rw [ev436.trans ev1.symm]
              clear ev436 v436
              refine pe_iconstv (n := 1) (v := 1) (by decide +kernel) (by decide +kernel) ?_
              refine pz_add (by decide +kernel) rfl kz_1 (by omega) (by omega) (fun z437 hz437 => ?_)
              refine mz_st150 (by decide +kernel) hc hIA428 kz_0 (by omega) (by omega) (fun A438 eA438 hIA438 => ?_)
              have htr439 : TR (A438 150) (fr (A438 148) 3) := by rw [upa_at eA438, upa_fr eA438 (by decide : (148 : Nat) ≠ 150)]; exact TR_many htr433 (mlen_150 hIA428) (by omega) (by have hft := hft427; rw [← show A428 148 = A422 148 from upa_fr eA428 (by decide)] at hft; intro z; omega)
              have hc0440 : fr (A438 150) 0 ≤ fr (A 150) 0 + 1 := by rw [upa_at eA438, fr_eq (by decide) (by rw [mlen_150 hIA428]; decide), (show fr (A 150) (0) = v1.toInt from congrArg Int32.toInt ev1.symm)]; omega
              refine pe_aload_n (j := 0) (by decide +kernel) rfl ?_
              have htx441 := TX_fr (f2 := f421) (A2 := A438) htx434 (rfl) (rfl) (rfl) (by rw [show f421 9 = f421 9 from rfl]; exact Int.le_refl _) (upa_fr eA438 (by decide))
              have hts442 := TS_w hts435 (Int.le_of_eq (ms_eq (rfl) (rfl) (rfl)).symm)
              refine pz_callV (j := 147) (mj := 214) (by decide +kernel) (cll_V (args := []) (n := 0) (by decide +kernel) rfl rfl (md_o hc) (by decide +kernel) (Nat.le_of_ble_eq_true rfl) (Nat.le_of_ble_eq_true rfl)) (NM_214 hc hIA438 htx441.2.2.2.2) (fun q443a q443b q443c q443d hqq443 => ?_)
              obtain ⟨f444, A445, eq443, hIq443, hGq443, hFq443, kq443⟩ := hqq443
              cases eq443
              refine ⟨rfl, rfl, ?_⟩
              obtain ⟨hp446, kq443⟩ := kq443
              have htx447 := TX_trans htx441 hp446
              have hts448 := TS_w hts442 hp446.2.2.1
              have hge449 : rq420.toInt ≤ (f444 9).toInt := Int.le_trans hp424 hp446.2.2.2.1
              have hft450 := hp446.1 (by rw [show A438 148 = A422 148 from (upa_fr eA438 (by decide)).trans (upa_fr eA428 (by decide))]; exact hft427)
              show pmE pg X pg_tyl pg_cl (d + 5) 215 233 [.ref 147, .int (f 4), .int rq317, .int y325] [] (md wc f444 A445) _
              exact pe_vret (by decide +kernel) rfl ⟨f444, A445, rfl, hIq443, (fun k n3 n4 n5 n6 n7 n8 n9 => ((hGq443 k n3 n4 n5 n6 n7 n8)).trans (((hGq420 k n3 n4 n5 n6 n7 n8 n9)).trans ((hGq317 k n3 n4 n5 n6 n7 n8)))), (fun k n148 n150 n151 => ((hFq443 k n148)).trans ((upa_fr eA438 n150).trans ((upa_fr eA428 n151).trans (((hFq420 k n148)).trans (((hFA324 k n151)).trans (((hFq317 k n148)).trans ((hFq312 k n148)))))))), ⟨htx447, hts448, (by rw [show A445 150 = A438 150 from (hFq443 150 (by decide))]; exact TR_up htr439 hp446.1), (by rw [show A445 150 = A438 150 from (hFq443 150 (by decide))]; exact hc0440), trivial⟩⟩
          · skip
            refine pe_aload_n (j := 0) (by decide +kernel) rfl ?_
            refine pe_get (j := 20) (ci := 12) (n := 11) (by decide +kernel) (by decide +kernel) (md_o hc) rfl ?_
            refine pe_iconstv (n := 0) (v := 0) (by decide +kernel) (by decide +kernel) ?_
            refine pe_aload_n (j := 0) (by decide +kernel) rfl ?_
            refine pe_iconstv (n := 0) (v := 0) (by decide +kernel) (by decide +kernel) ?_
            refine pe_bipushv (n := 29) (v := 29) (by decide +kernel) (by decide +kernel) ?_
            have hl451 := kz_0
            have hl452 := kz_29
            have htx453 := TX_fr (f2 := f318) (A2 := A324) htx322 (rfl) (rfl) (rfl) (by rw [show f318 9 = f318 9 from rfl]; exact Int.le_refl _) ((hFA324 148 (by decide)))
            have hts454 := TS_w hp321 (Int.le_of_eq (ms_eq (rfl) (rfl) (rfl)).symm)
            refine pz_callV (j := 130) (mj := 210) (by decide +kernel) (cll_V (args := [.int 29, .int 0]) (n := 2) (by decide +kernel) rfl rfl (md_o hc) (by decide +kernel) (Nat.le_of_ble_eq_true rfl) (Nat.le_of_ble_eq_true rfl)) (NM_210 hc hIy326 (by decide +kernel) (by decide +kernel) (by omega) htx453.2.2.2.2) (fun q455a q455b q455c q455d hqq455 => ?_)
            obtain ⟨f456, A457, rq455, eq455, hIq455, hGq455, hFq455, hX0q455, hX1q455, kq455⟩ := hqq455
            cases eq455
            refine ⟨rfl, rfl, ?_⟩
            obtain ⟨kfq455, kq455⟩ := kq455
            obtain ⟨hp458, hp459, kq455⟩ := kq455
            have htx460 := TX_trans htx453 hp458
            have hts461 := TS_w hts454 hp458.2.2.1
            have hft462 := hp458.1 (by rw [show A324 148 = A319 148 from (hFA324 148 (by decide))]; exact hft323)
            show pmE pg X pg_tyl pg_cl (d + 5) 215 132 [.ref 147, .int (f 4), .int rq317, .int y325] [.int rq455, .int 0, .ref 151] (md wc f456 A457) _
            refine mz_st151 (by decide +kernel) hc hIq455 kz_0 (by omega) (by omega) (fun A463 eA463 hIA463 => ?_)
            refine pe_iload_n (j := 2) (by decide +kernel) rfl ?_
            refine pe_bipushv (n := 15) (v := 15) (by decide +kernel) (by decide +kernel) ?_
            refine pz_icmp_ne (off := 14) (t := 150) (by decide +kernel) (by decide) rfl rfl kz_15 (fun h464 => ?_) (fun h464 => by omega)
            have he466 : fr (A463 151) 0 = rq455.toInt := (congrArg Int32.toInt (show (A463 151).getD 0 0 = rq455 from el_eq eA463 (by rw [(mlen_151 hIq455)]; decide))).trans rfl
            have hmra465 : MRA (rq317.toInt - 11) (fr (A463 151) 0) (fr (A463 151) 2) := by
              unfold MRA
              omega
            refine pe_aload_n (j := 0) (by decide +kernel) rfl ?_
            refine pe_get (j := 17) (ci := 12) (n := 10) (by decide +kernel) (by decide +kernel) (md_o hc) rfl ?_
            refine pe_iconstv (n := 0) (v := 0) (by decide +kernel) (by decide +kernel) ?_
            refine pz_iald (by decide +kernel) (md_a150 hc) (mlen_150 hIA463) kz_0 (by omega) (by omega) (fun v467 ev467 => ?_)
            rw [show A463 150 = A 150 from (upa_fr eA463 (by decide)).trans (((hFq455 150 (by decide))).trans (((hFA324 150 (by decide))).trans (((hFq317 150 (by decide))).trans ((hFq312 150 (by decide))))))] at ev467
            rw [ev467.trans ev1.symm]
            clear ev467 v467
            refine pe_bipushv (n := 30) (v := 30) (by decide +kernel) (by decide +kernel) ?_
            refine pz_icmp_ge (off := 61) (t := 219) (by decide +kernel) (by decide) rfl rfl kz_30 (fun h468 => ?_) (fun h468 => by omega)
            have htx470 := TX_fr (f2 := f456) (A2 := A463) htx460 (rfl) (rfl) (rfl) (by rw [show f456 9 = f456 9 from rfl]; exact Int.le_refl _) (upa_fr eA463 (by decide))
            have hts471 := TS_w hts461 (Int.le_of_eq (ms_eq (rfl) (rfl) (rfl)).symm)
            have htr469 : TR (A463 150) (fr (A463 148) 3) := by rw [show A463 150 = A 150 from (upa_fr eA463 (by decide)).trans (((hFq455 150 (by decide))).trans (((hFA324 150 (by decide))).trans (((hFq317 150 (by decide))).trans ((hFq312 150 (by decide))))))]; exact TR_up hpp1 htx470.1
            refine pe_aload_n (j := 0) (by decide +kernel) rfl ?_
            refine pe_get (j := 17) (ci := 12) (n := 10) (by decide +kernel) (by decide +kernel) (md_o hc) rfl ?_
            refine pe_iconstv (n := 0) (v := 0) (by decide +kernel) (by decide +kernel) ?_
            refine pe_dup2 (by decide +kernel) ⟨rfl, rfl⟩ ?_
            refine pz_iald (by decide +kernel) (md_a150 hc) (mlen_150 hIA463) kz_0 (by omega) (by omega) (fun v472 ev472 => ?_)
            rw [show A463 150 = A 150 from (upa_fr eA463 (by decide)).trans (((hFq455 150 (by decide))).trans (((hFA324 150 (by decide))).trans (((hFq317 150 (by decide))).trans ((hFq312 150 (by decide))))))] at ev472
            rw [ev472.trans ev1.symm]
            clear ev472 v472
            refine pe_iconstv (n := 1) (v := 1) (by decide +kernel) (by decide +kernel) ?_
            refine pz_add (by decide +kernel) rfl kz_1 (by omega) (by omega) (fun z473 hz473 => ?_)
            refine mz_st150 (by decide +kernel) hc hIA463 kz_0 (by omega) (by omega) (fun A474 eA474 hIA474 => ?_)
            have htr475 : TR (A474 150) (fr (A474 148) 3) := by rw [upa_at eA474, upa_fr eA474 (by decide : (148 : Nat) ≠ 150)]; exact TR_many htr469 (mlen_150 hIA463) (by omega) (by have hft := hft462; rw [← show A463 148 = A457 148 from upa_fr eA463 (by decide)] at hft; intro z; omega)
            have hc0476 : fr (A474 150) 0 ≤ fr (A 150) 0 + 1 := by rw [upa_at eA474, fr_eq (by decide) (by rw [mlen_150 hIA463]; decide), (show fr (A 150) (0) = v1.toInt from congrArg Int32.toInt ev1.symm)]; omega
            refine pe_aload_n (j := 0) (by decide +kernel) rfl ?_
            have htx477 := TX_fr (f2 := f456) (A2 := A474) htx470 (rfl) (rfl) (rfl) (by rw [show f456 9 = f456 9 from rfl]; exact Int.le_refl _) (upa_fr eA474 (by decide))
            have hts478 := TS_w hts471 (Int.le_of_eq (ms_eq (rfl) (rfl) (rfl)).symm)
            refine pz_callV (j := 147) (mj := 214) (by decide +kernel) (cll_V (args := []) (n := 0) (by decide +kernel) rfl rfl (md_o hc) (by decide +kernel) (Nat.le_of_ble_eq_true rfl) (Nat.le_of_ble_eq_true rfl)) (NM_214 hc hIA474 htx477.2.2.2.2) (fun q479a q479b q479c q479d hqq479 => ?_)
            obtain ⟨f480, A481, eq479, hIq479, hGq479, hFq479, kq479⟩ := hqq479
            cases eq479
            refine ⟨rfl, rfl, ?_⟩
            obtain ⟨hp482, kq479⟩ := kq479
            have htx483 := TX_trans htx477 hp482
            have hts484 := TS_w hts478 hp482.2.2.1
            have hft485 := hp482.1 (by rw [show A474 148 = A457 148 from (upa_fr eA474 (by decide)).trans (upa_fr eA463 (by decide))]; exact hft462)
            show pmE pg X pg_tyl pg_cl (d + 5) 215 233 [.ref 147, .int (f 4), .int rq317, .int y325] [] (md wc f480 A481) _
            exact pe_vret (by decide +kernel) rfl ⟨f480, A481, rfl, hIq479, (fun k n3 n4 n5 n6 n7 n8 n9 => ((hGq479 k n3 n4 n5 n6 n7 n8)).trans (((hGq455 k n3 n4 n5 n6 n7 n8)).trans ((hGq317 k n3 n4 n5 n6 n7 n8)))), (fun k n148 n150 n151 => ((hFq479 k n148)).trans ((upa_fr eA474 n150).trans ((upa_fr eA463 n151).trans (((hFq455 k n148)).trans (((hFA324 k n151)).trans (((hFq317 k n148)).trans ((hFq312 k n148)))))))), ⟨htx483, hts484, (by rw [show A481 150 = A474 150 from (hFq479 150 (by decide))]; exact TR_up htr475 hp482.1), (by rw [show A481 150 = A474 150 from (hFq479 150 (by decide))]; exact hc0476), trivial⟩⟩
        · skip
          refine pe_aload_n (j := 0) (by decide +kernel) rfl ?_
          have htx486 := TX_fr (f2 := f318) (A2 := A324) htx322 (rfl) (rfl) (rfl) (by rw [show f318 9 = f318 9 from rfl]; exact Int.le_refl _) ((hFA324 148 (by decide)))
          have hts487 := TS_w hp321 (Int.le_of_eq (ms_eq (rfl) (rfl) (rfl)).symm)
          refine pz_callV (j := 150) (mj := 216) (by decide +kernel) (cll_V (args := []) (n := 0) (by decide +kernel) rfl rfl (md_o hc) (by decide +kernel) (Nat.le_of_ble_eq_true rfl) (Nat.le_of_ble_eq_true rfl)) (NM_216 hc hIy326 htx486.2.2.2.2) (fun q488a q488b q488c q488d hqq488 => ?_)
          obtain ⟨f489, A490, eq488, hIq488, hGq488, hFq488, kq488⟩ := hqq488
          cases eq488
          refine ⟨rfl, rfl, ?_⟩
          obtain ⟨hp491, hp492, kq488⟩ := kq488
          have htx493 := TX_trans htx486 hp491
          have hts494 := TS_w hts487 hp491.2.2.1
          have hft495 := hp491.1 (by rw [show A324 148 = A319 148 from (hFA324 148 (by decide))]; exact hft323)
          show pmE pg X pg_tyl pg_cl (d + 5) 215 114 [.ref 147, .int (f 4), .int rq317, .int y325] [] (md wc f489 A490) _
          refine pe_iload_n (j := 2) (by decide +kernel) rfl ?_
          refine pe_bipushv (n := 14) (v := 14) (by decide +kernel) (by decide +kernel) ?_
          refine pz_icmp_ne (off := 16) (t := 133) (by decide +kernel) (by decide) rfl rfl kz_14 (fun h496 => ?_) (fun h496 => by omega)
          refine pe_iload_n (j := 2) (by decide +kernel) rfl ?_
          refine pe_bipushv (n := 15) (v := 15) (by decide +kernel) (by decide +kernel) ?_
          refine pz_icmp_ne (off := 14) (t := 150) (by decide +kernel) (by decide) rfl rfl kz_15 (fun h497 => ?_) (fun h497 => by omega)
          have hmra498 : MRA (rq317.toInt - 11) (fr (A490 151) 0) (fr (A490 151) 2) := by
            have h0 := hp492; rw [← show A490 151 = A490 151 from rfl] at h0
            unfold MRA
            omega
          refine pe_aload_n (j := 0) (by decide +kernel) rfl ?_
          refine pe_get (j := 17) (ci := 12) (n := 10) (by decide +kernel) (by decide +kernel) (md_o hc) rfl ?_
          refine pe_iconstv (n := 0) (v := 0) (by decide +kernel) (by decide +kernel) ?_
          refine pz_iald (by decide +kernel) (md_a150 hc) (mlen_150 hIq488) kz_0 (by omega) (by omega) (fun v499 ev499 => ?_)
          rw [show A490 150 = A 150 from ((hFq488 150 (by decide) (by decide))).trans (((hFA324 150 (by decide))).trans (((hFq317 150 (by decide))).trans ((hFq312 150 (by decide)))))] at ev499
          rw [ev499.trans ev1.symm]
          clear ev499 v499
          refine pe_bipushv (n := 30) (v := 30) (by decide +kernel) (by decide +kernel) ?_
          refine pz_icmp_ge (off := 61) (t := 219) (by decide +kernel) (by decide) rfl rfl kz_30 (fun h500 => ?_) (fun h500 => by omega)
          have htr501 : TR (A490 150) (fr (A490 148) 3) := by rw [show A490 150 = A 150 from ((hFq488 150 (by decide) (by decide))).trans (((hFA324 150 (by decide))).trans (((hFq317 150 (by decide))).trans ((hFq312 150 (by decide)))))]; exact TR_up hpp1 htx493.1
          refine pe_aload_n (j := 0) (by decide +kernel) rfl ?_
          refine pe_get (j := 17) (ci := 12) (n := 10) (by decide +kernel) (by decide +kernel) (md_o hc) rfl ?_
          refine pe_iconstv (n := 0) (v := 0) (by decide +kernel) (by decide +kernel) ?_
          refine pe_dup2 (by decide +kernel) ⟨rfl, rfl⟩ ?_
          refine pz_iald (by decide +kernel) (md_a150 hc) (mlen_150 hIq488) kz_0 (by omega) (by omega) (fun v502 ev502 => ?_)
          rw [show A490 150 = A 150 from ((hFq488 150 (by decide) (by decide))).trans (((hFA324 150 (by decide))).trans (((hFq317 150 (by decide))).trans ((hFq312 150 (by decide)))))] at ev502
          rw [ev502.trans ev1.symm]
          clear ev502 v502
          refine pe_iconstv (n := 1) (v := 1) (by decide +kernel) (by decide +kernel) ?_
          refine pz_add (by decide +kernel) rfl kz_1 (by omega) (by omega) (fun z503 hz503 => ?_)
          refine mz_st150 (by decide +kernel) hc hIq488 kz_0 (by omega) (by omega) (fun A504 eA504 hIA504 => ?_)
          have htr505 : TR (A504 150) (fr (A504 148) 3) := by rw [upa_at eA504, upa_fr eA504 (by decide : (148 : Nat) ≠ 150)]; exact TR_many htr501 (mlen_150 hIq488) (by omega) (by have hft := hft495; rw [← show A490 148 = A490 148 from rfl] at hft; intro z; omega)
          have hc0506 : fr (A504 150) 0 ≤ fr (A 150) 0 + 1 := by rw [upa_at eA504, fr_eq (by decide) (by rw [mlen_150 hIq488]; decide), (show fr (A 150) (0) = v1.toInt from congrArg Int32.toInt ev1.symm)]; omega
          refine pe_aload_n (j := 0) (by decide +kernel) rfl ?_
          have htx507 := TX_fr (f2 := f489) (A2 := A504) htx493 (rfl) (rfl) (rfl) (by rw [show f489 9 = f489 9 from rfl]; exact Int.le_refl _) (upa_fr eA504 (by decide))
          have hts508 := TS_w hts494 (Int.le_of_eq (ms_eq (rfl) (rfl) (rfl)).symm)
          refine pz_callV (j := 147) (mj := 214) (by decide +kernel) (cll_V (args := []) (n := 0) (by decide +kernel) rfl rfl (md_o hc) (by decide +kernel) (Nat.le_of_ble_eq_true rfl) (Nat.le_of_ble_eq_true rfl)) (NM_214 hc hIA504 htx507.2.2.2.2) (fun q509a q509b q509c q509d hqq509 => ?_)
          obtain ⟨f510, A511, eq509, hIq509, hGq509, hFq509, kq509⟩ := hqq509
          cases eq509
          refine ⟨rfl, rfl, ?_⟩
          obtain ⟨hp512, kq509⟩ := kq509
          have htx513 := TX_trans htx507 hp512
          have hts514 := TS_w hts508 hp512.2.2.1
          have hft515 := hp512.1 (by rw [show A504 148 = A490 148 from upa_fr eA504 (by decide)]; exact hft495)
          show pmE pg X pg_tyl pg_cl (d + 5) 215 233 [.ref 147, .int (f 4), .int rq317, .int y325] [] (md wc f510 A511) _
          exact pe_vret (by decide +kernel) rfl ⟨f510, A511, rfl, hIq509, (fun k n3 n4 n5 n6 n7 n8 n9 => ((hGq509 k n3 n4 n5 n6 n7 n8)).trans (((hGq488 k n3 n4 n5 n6 n7 n8)).trans ((hGq317 k n3 n4 n5 n6 n7 n8)))), (fun k n148 n150 n151 => ((hFq509 k n148)).trans ((upa_fr eA504 n150).trans (((hFq488 k n148 n151)).trans (((hFA324 k n151)).trans (((hFq317 k n148)).trans ((hFq312 k n148))))))), ⟨htx513, hts514, (by rw [show A511 150 = A504 150 from (hFq509 150 (by decide))]; exact TR_up htr505 hp512.1), (by rw [show A511 150 = A504 150 from (hFq509 150 (by decide))]; exact hc0506), trivial⟩⟩
      · skip
        refine pe_aload_n (j := 0) (by decide +kernel) rfl ?_
        refine pe_get (j := 20) (ci := 12) (n := 11) (by decide +kernel) (by decide +kernel) (md_o hc) rfl ?_
        refine pe_iconstv (n := 0) (v := 0) (by decide +kernel) (by decide +kernel) ?_
        refine pe_aload_n (j := 0) (by decide +kernel) rfl ?_
        refine pe_iconstv (n := (-1)) (v := (-1)) (by decide +kernel) (by decide +kernel) ?_
        have htx516 := TX_fr (f2 := f318) (A2 := A324) htx322 (rfl) (rfl) (rfl) (by rw [show f318 9 = f318 9 from rfl]; exact Int.le_refl _) ((hFA324 148 (by decide)))
        have hts517 := TS_w hp321 (Int.le_of_eq (ms_eq (rfl) (rfl) (rfl)).symm)
        refine pz_callV (j := 137) (mj := 212) (by decide +kernel) (cll_V (args := [.int (-1)]) (n := 1) (by decide +kernel) rfl rfl (md_o hc) (by decide +kernel) (Nat.le_of_ble_eq_true rfl) (Nat.le_of_ble_eq_true rfl)) (NM_212 hc hIy326 htx516.2.2.2.2) (fun q518a q518b q518c q518d hqq518 => ?_)
        obtain ⟨f519, A520, rq518, eq518, hIq518, hGq518, hFq518, kq518⟩ := hqq518
        cases eq518
        refine ⟨rfl, rfl, ?_⟩
        obtain ⟨kfq518, kq518⟩ := kq518
        obtain ⟨hp521, hp522, kq518⟩ := kq518
        have htx523 := TX_trans htx516 hp521
        have hts524 := TS_w hts517 hp521.2.2.1
        have hft525 := hp521.1 (by rw [show A324 148 = A319 148 from (hFA324 148 (by decide))]; exact hft323)
        show pmE pg X pg_tyl pg_cl (d + 5) 215 74 [.ref 147, .int (f 4), .int rq317, .int y325] [.int rq518, .int 0, .ref 151] (md wc f519 A520) _
        refine mz_st151 (by decide +kernel) hc hIq518 kz_0 (by omega) (by omega) (fun A526 eA526 hIA526 => ?_)
        refine pe_aload_n (j := 0) (by decide +kernel) rfl ?_
        refine pe_get (j := 20) (ci := 12) (n := 11) (by decide +kernel) (by decide +kernel) (md_o hc) rfl ?_
        refine pe_iconstv (n := 1) (v := 1) (by decide +kernel) (by decide +kernel) ?_
        refine pe_aload_n (j := 0) (by decide +kernel) rfl ?_
        refine pe_aload_n (j := 0) (by decide +kernel) rfl ?_
        refine pe_get (j := 20) (ci := 12) (n := 11) (by decide +kernel) (by decide +kernel) (md_o hc) rfl ?_
        refine pe_iconstv (n := 0) (v := 0) (by decide +kernel) (by decide +kernel) ?_
        refine pz_iald (by decide +kernel) (md_a151 hc) (mlen_151 hIA526) kz_0 (by omega) (by omega) (fun v527 ev527 => ?_)
        have htx528 := TX_fr (f2 := f519) (A2 := A526) htx523 (rfl) (rfl) (rfl) (by rw [show f519 9 = f519 9 from rfl]; exact Int.le_refl _) (upa_fr eA526 (by decide))
        have hts529 := TS_w hts524 (Int.le_of_eq (ms_eq (rfl) (rfl) (rfl)).symm)
        refine pz_callV (j := 137) (mj := 212) (by decide +kernel) (cll_V (args := [.int v527]) (n := 1) (by decide +kernel) rfl rfl (md_o hc) (by decide +kernel) (Nat.le_of_ble_eq_true rfl) (Nat.le_of_ble_eq_true rfl)) (NM_212 hc hIA526 htx528.2.2.2.2) (fun q530a q530b q530c q530d hqq530 => ?_)
        obtain ⟨f531, A532, rq530, eq530, hIq530, hGq530, hFq530, kq530⟩ := hqq530
        cases eq530
        refine ⟨rfl, rfl, ?_⟩
        obtain ⟨kfq530, kq530⟩ := kq530
        obtain ⟨hp533, hp534, kq530⟩ := kq530
        have htx535 := TX_trans htx528 hp533
        have hts536 := TS_w hts529 hp533.2.2.1
        have hge537 : rq518.toInt ≤ (f531 9).toInt := Int.le_trans hp522 hp533.2.2.2.1
        have hft538 := hp533.1 (by rw [show A526 148 = A520 148 from upa_fr eA526 (by decide)]; exact hft525)
        show pmE pg X pg_tyl pg_cl (d + 5) 215 90 [.ref 147, .int (f 4), .int rq317, .int y325] [.int rq530, .int 1, .ref 151] (md wc f531 A532) _
        refine mz_st151 (by decide +kernel) hc hIq530 kz_1 (by omega) (by omega) (fun A539 eA539 hIA539 => ?_)
        refine pe_aload_n (j := 0) (by decide +kernel) rfl ?_
        refine pe_get (j := 20) (ci := 12) (n := 11) (by decide +kernel) (by decide +kernel) (md_o hc) rfl ?_
        refine pe_iconstv (n := 2) (v := 2) (by decide +kernel) (by decide +kernel) ?_
        refine pe_aload_n (j := 0) (by decide +kernel) rfl ?_
        refine pe_iconstv (n := 1) (v := 1) (by decide +kernel) (by decide +kernel) ?_
        refine pe_bipushv (n := 99) (v := 99) (by decide +kernel) (by decide +kernel) ?_
        have hl540 := kz_1
        have hl541 := kz_99
        have htx542 := TX_fr (f2 := f531) (A2 := A539) htx535 (rfl) (rfl) (rfl) (by rw [show f531 9 = f531 9 from rfl]; exact Int.le_refl _) (upa_fr eA539 (by decide))
        have hts543 := TS_w hts536 (Int.le_of_eq (ms_eq (rfl) (rfl) (rfl)).symm)
        refine pz_callV (j := 130) (mj := 210) (by decide +kernel) (cll_V (args := [.int 99, .int 1]) (n := 2) (by decide +kernel) rfl rfl (md_o hc) (by decide +kernel) (Nat.le_of_ble_eq_true rfl) (Nat.le_of_ble_eq_true rfl)) (NM_210 hc hIA539 (by decide +kernel) (by decide +kernel) (by omega) htx542.2.2.2.2) (fun q544a q544b q544c q544d hqq544 => ?_)
        obtain ⟨f545, A546, rq544, eq544, hIq544, hGq544, hFq544, hX0q544, hX1q544, kq544⟩ := hqq544
        cases eq544
        refine ⟨rfl, rfl, ?_⟩
        obtain ⟨kfq544, kq544⟩ := kq544
        obtain ⟨hp547, hp548, kq544⟩ := kq544
        have htx549 := TX_trans htx542 hp547
        have hts550 := TS_w hts543 hp547.2.2.1
        have hge551 : rq518.toInt ≤ (f545 9).toInt := Int.le_trans hge537 hp547.2.2.2.1
        have hge552 : rq530.toInt ≤ (f545 9).toInt := Int.le_trans hp534 hp547.2.2.2.1
        have hft553 := hp547.1 (by rw [show A539 148 = A532 148 from upa_fr eA539 (by decide)]; exact hft538)
        show pmE pg X pg_tyl pg_cl (d + 5) 215 103 [.ref 147, .int (f 4), .int rq317, .int y325] [.int rq544, .int 2, .ref 151] (md wc f545 A546) _
        refine mz_st151 (by decide +kernel) hc hIq544 kz_2 (by omega) (by omega) (fun A554 eA554 hIA554 => ?_)
        refine pe_iload_n (j := 2) (by decide +kernel) rfl ?_
        refine pe_bipushv (n := 13) (v := 13) (by decide +kernel) (by decide +kernel) ?_
        refine pz_icmp_ne (off := 7) (t := 114) (by decide +kernel) (by decide) rfl rfl kz_13 (fun h555 => ?_) (fun h555 => by omega)
        refine pe_iload_n (j := 2) (by decide +kernel) rfl ?_
        refine pe_bipushv (n := 14) (v := 14) (by decide +kernel) (by decide +kernel) ?_
        refine pz_icmp_ne (off := 16) (t := 133) (by decide +kernel) (by decide) rfl rfl kz_14 (fun h556 => ?_) (fun h556 => by omega)
        refine pe_iload_n (j := 2) (by decide +kernel) rfl ?_
        refine pe_bipushv (n := 15) (v := 15) (by decide +kernel) (by decide +kernel) ?_
        refine pz_icmp_ne (off := 14) (t := 150) (by decide +kernel) (by decide) rfl rfl kz_15 (fun h557 => ?_) (fun h557 => by omega)
        have he559 : fr (A554 151) 0 = rq518.toInt := (congrArg Int32.toInt (show (A554 151).getD 0 0 = rq518 from (el_ne eA554 (by omega)).trans ((el_fr ((hFq544 151 (by decide)))).trans ((el_ne eA539 (by omega)).trans ((el_fr ((hFq530 151 (by decide)))).trans (el_eq eA526 (by rw [(mlen_151 hIq518)]; decide))))))).trans rfl
        have he560 : fr (A554 151) 2 = rq544.toInt := (congrArg Int32.toInt (show (A554 151).getD 2 0 = rq544 from el_eq eA554 (by rw [(mlen_151 hIq544)]; decide))).trans rfl
        have hmra558 : MRA (rq317.toInt - 11) (fr (A554 151) 0) (fr (A554 151) 2) := by
          unfold MRA
          omega
        refine pe_aload_n (j := 0) (by decide +kernel) rfl ?_
        refine pe_get (j := 17) (ci := 12) (n := 10) (by decide +kernel) (by decide +kernel) (md_o hc) rfl ?_
        refine pe_iconstv (n := 0) (v := 0) (by decide +kernel) (by decide +kernel) ?_
        refine pz_iald (by decide +kernel) (md_a150 hc) (mlen_150 hIA554) kz_0 (by omega) (by omega) (fun v561 ev561 => ?_)
        rw [show A554 150 = A 150 from (upa_fr eA554 (by decide)).trans (((hFq544 150 (by decide))).trans ((upa_fr eA539 (by decide)).trans (((hFq530 150 (by decide))).trans ((upa_fr eA526 (by decide)).trans (((hFq518 150 (by decide))).trans (((hFA324 150 (by decide))).trans (((hFq317 150 (by decide))).trans ((hFq312 150 (by decide))))))))))] at ev561
        rw [ev561.trans ev1.symm]
        clear ev561 v561
        refine pe_bipushv (n := 30) (v := 30) (by decide +kernel) (by decide +kernel) ?_
        refine pz_icmp_ge (off := 61) (t := 219) (by decide +kernel) (by decide) rfl rfl kz_30 (fun h562 => ?_) (fun h562 => by omega)
        have htx564 := TX_fr (f2 := f545) (A2 := A554) htx549 (rfl) (rfl) (rfl) (by rw [show f545 9 = f545 9 from rfl]; exact Int.le_refl _) (upa_fr eA554 (by decide))
        have hts565 := TS_w hts550 (Int.le_of_eq (ms_eq (rfl) (rfl) (rfl)).symm)
        have htr563 : TR (A554 150) (fr (A554 148) 3) := by rw [show A554 150 = A 150 from (upa_fr eA554 (by decide)).trans (((hFq544 150 (by decide))).trans ((upa_fr eA539 (by decide)).trans (((hFq530 150 (by decide))).trans ((upa_fr eA526 (by decide)).trans (((hFq518 150 (by decide))).trans (((hFA324 150 (by decide))).trans (((hFq317 150 (by decide))).trans ((hFq312 150 (by decide))))))))))]; exact TR_up hpp1 htx564.1
        refine pe_aload_n (j := 0) (by decide +kernel) rfl ?_
        refine pe_get (j := 17) (ci := 12) (n := 10) (by decide +kernel) (by decide +kernel) (md_o hc) rfl ?_
        refine pe_iconstv (n := 0) (v := 0) (by decide +kernel) (by decide +kernel) ?_
        refine pe_dup2 (by decide +kernel) ⟨rfl, rfl⟩ ?_
        refine pz_iald (by decide +kernel) (md_a150 hc) (mlen_150 hIA554) kz_0 (by omega) (by omega) (fun v566 ev566 => ?_)
        rw [show A554 150 = A 150 from (upa_fr eA554 (by decide)).trans (((hFq544 150 (by decide))).trans ((upa_fr eA539 (by decide)).trans (((hFq530 150 (by decide))).trans ((upa_fr eA526 (by decide)).trans (((hFq518 150 (by decide))).trans (((hFA324 150 (by decide))).trans (((hFq317 150 (by decide))).trans ((hFq312 150 (by decide))))))))))] at ev566
        rw [ev566.trans ev1.symm]
        clear ev566 v566
        refine pe_iconstv (n := 1) (v := 1) (by decide +kernel) (by decide +kernel) ?_
        refine pz_add (by decide +kernel) rfl kz_1 (by omega) (by omega) (fun z567 hz567 => ?_)
        refine mz_st150 (by decide +kernel) hc hIA554 kz_0 (by omega) (by omega) (fun A568 eA568 hIA568 => ?_)
        have htr569 : TR (A568 150) (fr (A568 148) 3) := by rw [upa_at eA568, upa_fr eA568 (by decide : (148 : Nat) ≠ 150)]; exact TR_many htr563 (mlen_150 hIA554) (by omega) (by have hft := hft553; rw [← show A554 148 = A546 148 from upa_fr eA554 (by decide)] at hft; intro z; omega)
        have hc0570 : fr (A568 150) 0 ≤ fr (A 150) 0 + 1 := by rw [upa_at eA568, fr_eq (by decide) (by rw [mlen_150 hIA554]; decide), (show fr (A 150) (0) = v1.toInt from congrArg Int32.toInt ev1.symm)]; omega
        refine pe_aload_n (j := 0) (by decide +kernel) rfl ?_
        have htx571 := TX_fr (f2 := f545) (A2 := A568) htx564 (rfl) (rfl) (rfl) (by rw [show f545 9 = f545 9 from rfl]; exact Int.le_refl _) (upa_fr eA568 (by decide))
        have hts572 := TS_w hts565 (Int.le_of_eq (ms_eq (rfl) (rfl) (rfl)).symm)
        refine pz_callV (j := 147) (mj := 214) (by decide +kernel) (cll_V (args := []) (n := 0) (by decide +kernel) rfl rfl (md_o hc) (by decide +kernel) (Nat.le_of_ble_eq_true rfl) (Nat.le_of_ble_eq_true rfl)) (NM_214 hc hIA568 htx571.2.2.2.2) (fun q573a q573b q573c q573d hqq573 => ?_)
        obtain ⟨f574, A575, eq573, hIq573, hGq573, hFq573, kq573⟩ := hqq573
        cases eq573
        refine ⟨rfl, rfl, ?_⟩
        obtain ⟨hp576, kq573⟩ := kq573
        have htx577 := TX_trans htx571 hp576
        have hts578 := TS_w hts572 hp576.2.2.1
        have hge579 : rq518.toInt ≤ (f574 9).toInt := Int.le_trans hge551 hp576.2.2.2.1
        have hge580 : rq530.toInt ≤ (f574 9).toInt := Int.le_trans hge552 hp576.2.2.2.1
        have hft581 := hp576.1 (by rw [show A568 148 = A546 148 from (upa_fr eA568 (by decide)).trans (upa_fr eA554 (by decide))]; exact hft553)
        show pmE pg X pg_tyl pg_cl (d + 5) 215 233 [.ref 147, .int (f 4), .int rq317, .int y325] [] (md wc f574 A575) _
        exact pe_vret (by decide +kernel) rfl ⟨f574, A575, rfl, hIq573, (fun k n3 n4 n5 n6 n7 n8 n9 => ((hGq573 k n3 n4 n5 n6 n7 n8)).trans (((hGq544 k n3 n4 n5 n6 n7 n8)).trans (((hGq530 k n3 n4 n5 n6 n7 n8 n9)).trans (((hGq518 k n3 n4 n5 n6 n7 n8 n9)).trans ((hGq317 k n3 n4 n5 n6 n7 n8)))))), (fun k n148 n150 n151 => ((hFq573 k n148)).trans ((upa_fr eA568 n150).trans ((upa_fr eA554 n151).trans (((hFq544 k n148)).trans ((upa_fr eA539 n151).trans (((hFq530 k n148)).trans ((upa_fr eA526 n151).trans (((hFq518 k n148)).trans (((hFA324 k n151)).trans (((hFq317 k n148)).trans ((hFq312 k n148)))))))))))), ⟨htx577, hts578, (by rw [show A575 150 = A568 150 from (hFq573 150 (by decide))]; exact TR_up htr569 hp576.1), (by rw [show A575 150 = A568 150 from (hFq573 150 (by decide))]; exact hc0570), trivial⟩⟩
