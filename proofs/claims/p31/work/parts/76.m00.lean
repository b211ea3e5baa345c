set_option maxRecDepth 100000 in
set_option maxHeartbeats 8000000 in
theorem MM_213 {X : pm_X} {d : Nat} {wc : pm_W} {f : Nat → Int32} {A : Nat → List Int32} {x1 : Int32} (hc : wc.length = 147) (hI : MI f A) (hxp0 : ((-1) * ((A 150).getD 1 0).toInt) ≤ 0) (hxp1 : (((A 150).getD 1 0).toInt + (-100000)) ≤ 0) : pmE pg X pg_tyl pg_cl (d + 5) 213 0 (pm_ent (pm_max pg 213) [.ref 147, .int x1]) [] (md wc f A) (fun q => ∃ (f' : Nat → Int32) (A' : Nat → List Int32), q = (none, md wc f' A', 0, 0) ∧ MI f' A' ∧ (∀ k : Nat, k ≠ 3 → k ≠ 4 → k ≠ 5 → k ≠ 6 → k ≠ 7 → k ≠ 8 → k ≠ 9 → f' k = f k) ∧ (∀ k : Nat, k ≠ 148 → k ≠ 150 → A' k = A k) ∧ ((-5) * (f' 3).toInt + (f' 5).toInt + (-5000) * (f' 8).toInt + 5 * (f 3).toInt + (-1) * (f 5).toInt + 4999 * (f 8).toInt + 1) ≤ 0 ∧ (((A' 150).getD 1 0).toInt + (-1) * ((A 150).getD 1 0).toInt + (-1)) ≤ 0 ∧ ((-1) * ((A' 150).getD 1 0).toInt + ((A 150).getD 1 0).toInt) ≤ 0 ∧ ((True))) := by
  show pmE pg X pg_tyl pg_cl (d + 5) 213 0 [.ref 147, .int x1, pm_dead, pm_dead, pm_dead, pm_dead, pm_dead] [] (md wc f A) _
  refine pe_aload_n (j := 0) (by decide +kernel) rfl ?_
  refine pe_get (j := 17) (ci := 12) (n := 10) (by decide +kernel) (by decide +kernel) (md_o hc) rfl ?_
  refine pe_iconstv (n := 1) (v := 1) (by decide +kernel) (by decide +kernel) ?_
  refine mz_ld150 (by decide +kernel) hc hI kz_1 (by omega) (by omega) (fun v1 ev1 => ?_)
  have hvv1 : v1.toInt = ((A 150).getD 1 0).toInt := (congrArg Int32.toInt (ev1.trans (show (A 150).getD 1 0 = ((A 150).getD 1 0) from rfl))).trans rfl
  refine pe_bipushv (n := 7) (v := 7) (by decide +kernel) (by decide +kernel) ?_
  refine pz_icmp_lt (off := 9) (t := 17) (by decide +kernel) (by decide) rfl rfl kz_7 (fun h2 => ?_) (fun h2 => ?_)
  · skip
    refine pe_aload_n (j := 0) (by decide +kernel) rfl ?_
    refine pe_iconstv (n := (-1)) (v := (-1)) (by decide +kernel) (by decide +kernel) ?_
    have hr_3_f := hI.1 3
    simp only [MF] at hr_3_f
    have hr_5_f := hI.1 5
    simp only [MF] at hr_5_f
    have hr_8_f := hI.1 8
    simp only [MF] at hr_8_f
    refine pz_callV (j := 137) (mj := 212) (by decide +kernel) (cll_V (args := [.int (-1)]) (n := 1) (by decide +kernel) rfl rfl (md_o hc) (by decide +kernel) (Nat.le_of_ble_eq_true rfl) (Nat.le_of_ble_eq_true rfl)) (MM_212 hc hI) (fun q3a q3b q3c q3d hqq3 => ?_)
    obtain ⟨f4, A5, rq3, eq3, hIq3, hGq3, hFq3, hX0q3, kq3⟩ := hqq3
    cases eq3
    refine ⟨rfl, rfl, ?_⟩
    have hr_3_f4 := hIq3.1 3
    simp only [MF] at hr_3_f4
    have hr_5_f4 := hIq3.1 5
    simp only [MF] at hr_5_f4
    have hr_8_f4 := hIq3.1 8
    simp only [MF] at hr_8_f4
    have htq3 : ((-5) * (f4 3).toInt + (f4 5).toInt + (-5000) * (f4 8).toInt + 5 * (f 3).toInt + (-1) * (f 5).toInt + 4999 * (f 8).toInt + 1) ≤ 0 := by omega
    clear hX0q3
    show pmE pg X pg_tyl pg_cl (d + 5) 213 22 [.ref 147, .int x1, pm_dead, pm_dead, pm_dead, pm_dead, pm_dead] [.int rq3] (md wc f4 A5) _
    refine pe_istore_n (j := 2) (ls' := [.ref 147, .int x1, .int rq3, pm_dead, pm_dead, pm_dead, pm_dead]) (by decide +kernel) (Nat.le_of_ble_eq_true rfl) rfl ?_
    refine pe_aload_n (j := 0) (by decide +kernel) rfl ?_
    refine pe_iload_n (j := 2) (by decide +kernel) rfl ?_
    refine pz_callV (j := 137) (mj := 212) (by decide +kernel) (cll_V (args := [.int rq3]) (n := 1) (by decide +kernel) rfl rfl (md_o hc) (by decide +kernel) (Nat.le_of_ble_eq_true rfl) (Nat.le_of_ble_eq_true rfl)) (MM_212 hc hIq3) (fun q6a q6b q6c q6d hqq6 => ?_)
    obtain ⟨f7, A8, rq6, eq6, hIq6, hGq6, hFq6, hX0q6, kq6⟩ := hqq6
    cases eq6
    refine ⟨rfl, rfl, ?_⟩
    have hr_3_f7 := hIq6.1 3
    simp only [MF] at hr_3_f7
    have hr_5_f7 := hIq6.1 5
    simp only [MF] at hr_5_f7
    have hr_8_f7 := hIq6.1 8
    simp only [MF] at hr_8_f7
    have htq6 : ((-5) * (f7 3).toInt + (f7 5).toInt + (-5000) * (f7 8).toInt + 5 * (f 3).toInt + (-1) * (f 5).toInt + 4999 * (f 8).toInt + 1) ≤ 0 := by omega
    clear hX0q6 htq3
    show pmE pg X pg_tyl pg_cl (d + 5) 213 28 [.ref 147, .int x1, .int rq3, pm_dead, pm_dead, pm_dead, pm_dead] [.int rq6] (md wc f7 A8) _
    refine pe_istore_n (j := 3) (ls' := [.ref 147, .int x1, .int rq3, .int rq6, pm_dead, pm_dead, pm_dead]) (by decide +kernel) (Nat.le_of_ble_eq_true rfl) rfl ?_
    refine pe_aload_n (j := 0) (by decide +kernel) rfl ?_
    refine pe_iconstv (n := 1) (v := 1) (by decide +kernel) (by decide +kernel) ?_
    refine pe_bipushv (n := 99) (v := 99) (by decide +kernel) (by decide +kernel) ?_
    have hl9 := kz_1
    have hl10 := kz_99
    refine pz_callV (j := 130) (mj := 210) (by decide +kernel) (cll_V (args := [.int 99, .int 1]) (n := 2) (by decide +kernel) rfl rfl (md_o hc) (by decide +kernel) (Nat.le_of_ble_eq_true rfl) (Nat.le_of_ble_eq_true rfl)) (MM_210 hc hIq6 (by decide +kernel) (by decide +kernel) (by omega)) (fun q11a q11b q11c q11d hqq11 => ?_)
    obtain ⟨f12, A13, rq11, eq11, hIq11, hGq11, hFq11, hX0q11, hX1q11, hX2q11, kq11⟩ := hqq11
    cases eq11
    refine ⟨rfl, rfl, ?_⟩
    have hr_3_f12 := hIq11.1 3
    simp only [MF] at hr_3_f12
    have hr_5_f12 := hIq11.1 5
    simp only [MF] at hr_5_f12
    have hr_8_f12 := hIq11.1 8
    simp only [MF] at hr_8_f12
    have htq11 : ((-5) * (f12 3).toInt + (f12 5).toInt + (-5000) * (f12 8).toInt + 5 * (f 3).toInt + (-1) * (f 5).toInt + 4999 * (f 8).toInt + 1) ≤ 0 := by omega
    clear hX0q11 htq6
    show pmE pg X pg_tyl pg_cl (d + 5) 213 36 [.ref 147, .int x1, .int rq3, .int rq6, pm_dead, pm_dead, pm_dead] [.int rq11] (md wc f12 A13) _
    refine pe_istore (j := 4) (ls' := [.ref 147, .int x1, .int rq3, .int rq6, .int rq11, pm_dead, pm_dead]) (by decide +kernel) (Nat.le_of_ble_eq_true rfl) rfl ?_
    refine pe_aload_n (j := 0) (by decide +kernel) rfl ?_
    refine pe_iconstv (n := 0) (v := 0) (by decide +kernel) (by decide +kernel) ?_
    refine pe_bipushv (n := 99) (v := 99) (by decide +kernel) (by decide +kernel) ?_
    have hl14 := kz_0
    have hl15 := kz_99
    refine pz_callV (j := 130) (mj := 210) (by decide +kernel) (cll_V (args := [.int 99, .int 0]) (n := 2) (by decide +kernel) rfl rfl (md_o hc) (by decide +kernel) (Nat.le_of_ble_eq_true rfl) (Nat.le_of_ble_eq_true rfl)) (MM_210 hc hIq11 (by decide +kernel) (by decide +kernel) (by omega)) (fun q16a q16b q16c q16d hqq16 => ?_)
    obtain ⟨f17, A18, rq16, eq16, hIq16, hGq16, hFq16, hX0q16, hX1q16, hX2q16, kq16⟩ := hqq16
    cases eq16
    refine ⟨rfl, rfl, ?_⟩
    have hr_3_f17 := hIq16.1 3
    simp only [MF] at hr_3_f17
    have hr_5_f17 := hIq16.1 5
    simp only [MF] at hr_5_f17
    have hr_8_f17 := hIq16.1 8
    simp only [MF] at hr_8_f17
    have htq16 : ((-5) * (f17 3).toInt + (f17 5).toInt + (-5000) * (f17 8).toInt + 5 * (f 3).toInt + (-1) * (f 5).toInt + 4999 * (f 8).toInt + 1) ≤ 0 := by omega
    clear hX0q16 htq11
    show pmE pg X pg_tyl pg_cl (d + 5) 213 45 [.ref 147, .int x1, .int rq3, .int rq6, .int rq11, pm_dead, pm_dead] [.int rq16] (md wc f17 A18) _
    refine pe_istore (j := 5) (ls' := [.ref 147, .int x1, .int rq3, .int rq6, .int rq11, .int rq16, pm_dead]) (by decide +kernel) (Nat.le_of_ble_eq_true rfl) rfl ?_
    refine pe_aload_n (j := 0) (by decide +kernel) rfl ?_
    refine pe_get (j := 17) (ci := 12) (n := 10) (by decide +kernel) (by decide +kernel) (md_o hc) rfl ?_
    refine pe_iconstv (n := 1) (v := 1) (by decide +kernel) (by decide +kernel) ?_
    refine mz_ld150 (by decide +kernel) hc hIq16 kz_1 (by omega) (by omega) (fun v19 ev19 => ?_)
    rw [show A18 150 = A 150 from ((hFq16 150 (by decide))).trans (((hFq11 150 (by decide))).trans (((hFq6 150 (by decide))).trans ((hFq3 150 (by decide)))))] at ev19
    rw [ev19.trans ev1.symm]
    clear ev19 v19
    refine pe_bipushv (n := 7) (v := 7) (by decide +kernel) (by decide +kernel) ?_
    refine pz_icmp_ge (off := 56) (t := 111) (by decide +kernel) (by decide) rfl rfl kz_7 (fun h20 => by omega) (fun h20 => ?_)
    refine pe_bipushv (n := 102) (v := 102) (by decide +kernel) (by decide +kernel) ?_
    refine pe_iconstv (n := 4) (v := 4) (by decide +kernel) (by decide +kernel) ?_
    refine pe_aload_n (j := 0) (by decide +kernel) rfl ?_
    refine pe_get (j := 17) (ci := 12) (n := 10) (by decide +kernel) (by decide +kernel) (md_o hc) rfl ?_
    refine pe_iconstv (n := 1) (v := 1) (by decide +kernel) (by decide +kernel) ?_
    refine mz_ld150 (by decide +kernel) hc hIq16 kz_1 (by omega) (by omega) (fun v21 ev21 => ?_)
    rw [show A18 150 = A 150 from ((hFq16 150 (by decide))).trans (((hFq11 150 (by decide))).trans (((hFq6 150 (by decide))).trans ((hFq3 150 (by decide)))))] at ev21
    rw [ev21.trans ev1.symm]
    clear ev21 v21
    refine pz_mul (by decide +kernel) kz_4 rfl (by omega) (by omega) (fun z22 hz22 => ?_)
    refine pz_add (by decide +kernel) kz_102 hz22 (by omega) (by omega) (fun z23 hz23 => ?_)
    clear hz22
    refine pe_istore (j := 6) (ls' := [.ref 147, .int x1, .int rq3, .int rq6, .int rq11, .int rq16, .int z23]) (by decide +kernel) (Nat.le_of_ble_eq_true rfl) rfl ?_
    refine pe_aload_n (j := 0) (by decide +kernel) rfl ?_
    refine pe_get (j := 17) (ci := 12) (n := 10) (by decide +kernel) (by decide +kernel) (md_o hc) rfl ?_
    refine pe_iload (j := 6) (by decide +kernel) rfl ?_
    refine pe_iload_n (j := 2) (by decide +kernel) rfl ?_
    refine mz_st150 (by decide +kernel) hc hIq16 hz23 (by omega) (by omega) (fun A24 eA24 hIA24 => ?_)
    refine pe_aload_n (j := 0) (by decide +kernel) rfl ?_
    refine pe_get (j := 17) (ci := 12) (n := 10) (by decide +kernel) (by decide +kernel) (md_o hc) rfl ?_
    refine pe_iload (j := 6) (by decide +kernel) rfl ?_
    refine pe_iconstv (n := 1) (v := 1) (by decide +kernel) (by decide +kernel) ?_
    refine pz_add (by decide +kernel) hz23 kz_1 (by omega) (by omega) (fun z25 hz25 => ?_)
    refine pe_iload_n (j := 3) (by decide +kernel) rfl ?_
    refine mz_st150 (by decide +kernel) hc hIA24 hz25 (by omega) (by omega) (fun A26 eA26 hIA26 => ?_)
    refine pe_aload_n (j := 0) (by decide +kernel) rfl ?_
    refine pe_get (j := 17) (ci := 12) (n := 10) (by decide +kernel) (by decide +kernel) (md_o hc) rfl ?_
    refine pe_iload (j := 6) (by decide +kernel) rfl ?_
    refine pe_iconstv (n := 2) (v := 2) (by decide +kernel) (by decide +kernel) ?_
    refine pz_add (by decide +kernel) hz23 kz_2 (by omega) (by omega) (fun z27 hz27 => ?_)
    refine pe_iload (j := 4) (by decide +kernel) rfl ?_
    refine mz_st150 (by decide +kernel) hc hIA26 hz27 (by omega) (by omega) (fun A28 eA28 hIA28 => ?_)
    refine pe_aload_n (j := 0) (by decide +kernel) rfl ?_
    refine pe_get (j := 17) (ci := 12) (n := 10) (by decide +kernel) (by decide +kernel) (md_o hc) rfl ?_
    refine pe_iload (j := 6) (by decide +kernel) rfl ?_
    refine pe_iconstv (n := 3) (v := 3) (by decide +kernel) (by decide +kernel) ?_
    refine pz_add (by decide +kernel) hz23 kz_3 (by omega) (by omega) (fun z29 hz29 => ?_)
    refine pe_iload (j := 5) (by decide +kernel) rfl ?_
    refine mz_st150 (by decide +kernel) hc hIA28 hz29 (by omega) (by omega) (fun A30 eA30 hIA30 => ?_)
    refine pe_aload_n (j := 0) (by decide +kernel) rfl ?_
    refine pe_get (j := 17) (ci := 12) (n := 10) (by decide +kernel) (by decide +kernel) (md_o hc) rfl ?_
    refine pe_iconstv (n := 1) (v := 1) (by decide +kernel) (by decide +kernel) ?_
    refine pe_dup2 (by decide +kernel) ⟨rfl, rfl⟩ ?_
    refine mz_ld150 (by decide +kernel) hc hIA30 kz_1 (by omega) (by omega) (fun v31 ev31 => ?_)
    have hvv31 : v31.toInt = ((A 150).getD 1 0).toInt := (congrArg Int32.toInt (ev31.trans (show (A30 150).getD 1 0 = ((A 150).getD 1 0) from (el_ne eA30 (by omega)).trans ((el_ne eA28 (by omega)).trans ((el_ne eA26 (by omega)).trans ((el_ne eA24 (by omega)).trans ((el_fr (hFq16 150 (by decide))).trans ((el_fr (hFq11 150 (by decide))).trans ((el_fr (hFq6 150 (by decide))).trans (el_fr (hFq3 150 (by decide)))))))))))).trans rfl
    refine pe_iconstv (n := 1) (v := 1) (by decide +kernel) (by decide +kernel) ?_
    refine pz_add (by decide +kernel) rfl kz_1 (by omega) (by omega) (fun z32 hz32 => ?_)
    refine mz_st150 (by decide +kernel) hc hIA30 kz_1 (by omega) (by omega) (fun A33 eA33 hIA33 => ?_)
    have hx34 : ((A33 150).getD 1 0).toInt = (v31.toInt + 1) := (congrArg Int32.toInt (show (A33 150).getD 1 0 = z32 from el_eq eA33 (by rw [hIA30.2.1 150 (by decide) (by decide)]; decide))).trans hz32
    have hx35 : ((A33 150).getD 1 0).toInt = (v31.toInt + 1) := (congrArg Int32.toInt (show (A33 150).getD 1 0 = z32 from el_eq eA33 (by rw [hIA30.2.1 150 (by decide) (by decide)]; decide))).trans hz32
    exact pe_vret (by decide +kernel) rfl ⟨f17, A33, rfl, hIA33, (fun k n3 n4 n5 n6 n7 n8 n9 => ((hGq16 k n3 n4 n5 n6 n7 n8)).trans (((hGq11 k n3 n4 n5 n6 n7 n8)).trans (((hGq6 k n3 n4 n5 n6 n7 n8 n9)).trans ((hGq3 k n3 n4 n5 n6 n7 n8 n9))))), (fun k n148 n150 => (upa_fr eA33 n150).trans ((upa_fr eA30 n150).trans ((upa_fr eA28 n150).trans ((upa_fr eA26 n150).trans ((upa_fr eA24 n150).trans (((hFq16 k n148)).trans (((hFq11 k n148)).trans (((hFq6 k n148)).trans ((hFq3 k n148)))))))))), (by omega), (by omega), (by omega), trivial⟩
  · skip
    refine pe_aload_n (j := 0) (by decide +kernel) rfl ?_
    refine pe_iconstv (n := 3) (v := 3) (by decide +kernel) (by decide +kernel) ?_
    refine pe_iload_n (j := 1) (by decide +kernel) rfl ?_
    refine pz_callV (j := 123) (mj := 211) (by decide +kernel) (cll_V (args := [.int x1, .int 3]) (n := 2) (by decide +kernel) rfl rfl (md_o hc) (by decide +kernel) (Nat.le_of_ble_eq_true rfl) (Nat.le_of_ble_eq_true rfl)) (MM_211 hc hI) (fun q36a q36b q36c q36d hqq36 => ?_)
    obtain ⟨A37, eq36, hIq36, hFq36, kq36⟩ := hqq36
    cases eq36
    refine ⟨rfl, rfl, ?_⟩
    show pmE pg X pg_tyl pg_cl (d + 5) 213 17 [.ref 147, .int x1, pm_dead, pm_dead, pm_dead, pm_dead, pm_dead] [] (md wc f A37) _
    refine pe_aload_n (j := 0) (by decide +kernel) rfl ?_
    refine pe_iconstv (n := (-1)) (v := (-1)) (by decide +kernel) (by decide +kernel) ?_
    have hr_3_f := hI.1 3
    simp only [MF] at hr_3_f
    have hr_5_f := hI.1 5
    simp only [MF] at hr_5_f
    have hr_8_f := hI.1 8
    simp only [MF] at hr_8_f
    refine pz_callV (j := 137) (mj := 212) (by decide +kernel) (cll_V (args := [.int (-1)]) (n := 1) (by decide +kernel) rfl rfl (md_o hc) (by decide +kernel) (Nat.le_of_ble_eq_true rfl) (Nat.le_of_ble_eq_true rfl)) (MM_212 hc hIq36) (fun q38a q38b q38c q38d hqq38 => ?_)
    obtain ⟨f39, A40, rq38, eq38, hIq38, hGq38, hFq38, hX0q38, kq38⟩ := hqq38
    cases eq38
    refine ⟨rfl, rfl, ?_⟩
    have hr_3_f39 := hIq38.1 3
    simp only [MF] at hr_3_f39
    have hr_5_f39 := hIq38.1 5
    simp only [MF] at hr_5_f39
    have hr_8_f39 := hIq38.1 8
    simp only [MF] at hr_8_f39
    have htq38 : ((-5) * (f39 3).toInt + (f39 5).toInt + (-5000) * (f39 8).toInt + 5 * (f 3).toInt + (-1) * (f 5).toInt + 4999 * (f 8).toInt + 1) ≤ 0 := by omega
    clear hX0q38
    show pmE pg X pg_tyl pg_cl (d + 5) 213 22 [.ref 147, .int x1, pm_dead, pm_dead, pm_dead, pm_dead, pm_dead] [.int rq38] (md wc f39 A40) _
    refine pe_istore_n (j := 2) (ls' := [.ref 147, .int x1, .int rq38, pm_dead, pm_dead, pm_dead, pm_dead]) (by decide +kernel) (Nat.le_of_ble_eq_true rfl) rfl ?_
    refine pe_aload_n (j := 0) (by decide +kernel) rfl ?_
    refine pe_iload_n (j := 2) (by decide +kernel) rfl ?_
    refine pz_callV (j := 137) (mj := 212) (by decide +kernel) (cll_V (args := [.int rq38]) (n := 1) (by decide +kernel) rfl rfl (md_o hc) (by decide +kernel) (Nat.le_of_ble_eq_true rfl) (Nat.le_of_ble_eq_true rfl)) (MM_212 hc hIq38) (fun q41a q41b q41c q41d hqq41 => ?_)
    obtain ⟨f42, A43, rq41, eq41, hIq41, hGq41, hFq41, hX0q41, kq41⟩ := hqq41
    cases eq41
    refine ⟨rfl, rfl, ?_⟩
    have hr_3_f42 := hIq41.1 3
    simp only [MF] at hr_3_f42
    have hr_5_f42 := hIq41.1 5
    simp only [MF] at hr_5_f42
    have hr_8_f42 := hIq41.1 8
    simp only [MF] at hr_8_f42
    have htq41 : ((-5) * (f42 3).toInt + (f42 5).toInt + (-5000) * (f42 8).toInt + 5 * (f 3).toInt + (-1) * (f 5).toInt + 4999 * (f 8).toInt + 1) ≤ 0 := by omega
    clear hX0q41 htq38
    show pmE pg X pg_tyl pg_cl (d + 5) 213 28 [.ref 147, .int x1, .int rq38, pm_dead, pm_dead, pm_dead, pm_dead] [.int rq41] (md wc f42 A43) _
    refine pe_istore_n (j := 3) (ls' := [.ref 147, .int x1, .int rq38, .int rq41, pm_dead, pm_dead, pm_dead]) (by decide +kernel) (Nat.le_of_ble_eq_true rfl) rfl ?_
    refine pe_aload_n (j := 0) (by decide +kernel) rfl ?_
    refine pe_iconstv (n := 1) (v := 1) (by decide +kernel) (by decide +kernel) ?_
    refine pe_bipushv (n := 99) (v := 99) (by decide +kernel) (by decide +kernel) ?_
    have hl44 := kz_1
    have hl45 := kz_99
    refine pz_callV (j := 130) (mj := 210) (by decide +kernel) (cll_V (args := [.int 99, .int 1]) (n := 2) (by decide +kernel) rfl rfl (md_o hc) (by decide +kernel) (Nat.le_of_ble_eq_true rfl) (Nat.le_of_ble_eq_true rfl)) (MM_210 hc hIq41 (by decide +kernel) (by decide +kernel) (by omega)) (fun q46a q46b q46c q46d hqq46 => ?_)
    obtain ⟨f47, A48, rq46, eq46, hIq46, hGq46, hFq46, hX0q46, hX1q46, hX2q46, kq46⟩ := hqq46
    cases eq46
    refine ⟨rfl, rfl, ?_⟩
    have hr_3_f47 := hIq46.1 3
    simp only [MF] at hr_3_f47
    have hr_5_f47 := hIq46.1 5
    simp only [MF] at hr_5_f47
    have hr_8_f47 := hIq46.1 8
    simp only [MF] at hr_8_f47
    have htq46 : ((-5) * (f47 3).toInt + (f47 5).toInt + (-5000) * (f47 8).toInt + 5 * (f 3).toInt + (-1) * (f 5).toInt + 4999 * (f 8).toInt + 1) ≤ 0 := by omega
    clear hX0q46 htq41
    show pmE pg X pg_tyl pg_cl (d + 5) 213 36 [.ref 147, .int x1, .int rq38, .int rq41, pm_dead, pm_dead, pm_dead] [.int rq46] (md wc f47 A48) _
    refine pe_istore (j := 4) (ls' := [.ref 147, .int x1, .int rq38, .int rq41, .int rq46, pm_dead, pm_dead]) (by decide +kernel) (Nat.le_of_ble_eq_true rfl) rfl ?_
    refine pe_aload_n (j := 0) (by decide +kernel) rfl ?_
    refine pe_iconstv (n := 0) (v := 0) (by decide +kernel) (by decide +kernel) ?_
    refine pe_bipushv (n := 99) (v := 99) (by decide +kernel) (by decide +kernel) ?_
    have hl49 := kz_0
    have hl50 := kz_99
    refine pz_callV (j := 130) (mj := 210) (by decide +kernel) (cll_V (args := [.int 99, .int 0]) (n := 2) (by decide +kernel) rfl rfl (md_o hc) (by decide +kernel) (Nat.le_of_ble_eq_true rfl) (Nat.le_of_ble_eq_true rfl)) (MM_210 hc hIq46 (by decide +kernel) (by decide +kernel) (by omega)) (fun q51a q51b q51c q51d hqq51 => ?_)
    obtain ⟨f52, A53, rq51, eq51, hIq51, hGq51, hFq51, hX0q51, hX1q51, hX2q51, kq51⟩ := hqq51
    cases eq51
    refine ⟨rfl, rfl, ?_⟩
    have hr_3_f52 := hIq51.1 3
    simp only [MF] at hr_3_f52
    have hr_5_f52 := hIq51.1 5
    simp only [MF] at hr_5_f52
    have hr_8_f52 := hIq51.1 8
    simp only [MF] at hr_8_f52
    have htq51 : ((-5) * (f52 3).toInt + (f52 5).toInt + (-5000) * (f52 8).toInt + 5 * (f 3).toInt + (-1) * (f 5).toInt + 4999 * (f 8).toInt + 1) ≤ 0 := by omega
    clear hX0q51 htq46
    show pmE pg X pg_tyl pg_cl (d + 5) 213 45 [.ref 147, .int x1, .int rq38, .int rq41, .int rq46, pm_dead, pm_dead] [.int rq51] (md wc f52 A53) _
    refine pe_istore (j := 5) (ls' := [.ref 147, .int x1, .int rq38, .int rq41, .int rq46, .int rq51, pm_dead]) (by decide +kernel) (Nat.le_of_ble_eq_true rfl) rfl ?_
    refine pe_aload_n (j := 0) (by decide +kernel) rfl ?_
    refine pe_get (j := 17) (ci := 12) (n := 10) (by decide +kernel) (by decide +kernel) (md_o hc) rfl ?_
    refine pe_iconstv (n := 1) (v := 1) (by decide +kernel) (by decide +kernel) ?_
    refine mz_ld150 (by decide +kernel) hc hIq51 kz_1 (by omega) (by omega) (fun v54 ev54 => ?_)
    rw [show A53 150 = A 150 from ((hFq51 150 (by decide))).trans (((hFq46 150 (by decide))).trans (((hFq41 150 (by decide))).trans (((hFq38 150 (by decide))).trans ((hFq36 150 (by decide))))))] at ev54
    rw [ev54.trans ev1.symm]
    clear ev54 v54
    refine pe_bipushv (n := 7) (v := 7) (by decide +kernel) (by decide +kernel) ?_
    refine pz_icmp_ge (off := 56) (t := 111) (by decide +kernel) (by decide) rfl rfl kz_7 (fun h55 => ?_) (fun h55 => by omega)
    refine pe_aload_n (j := 0) (by decide +kernel) rfl ?_
    refine pe_get (j := 17) (ci := 12) (n := 10) (by decide +kernel) (by decide +kernel) (md_o hc) rfl ?_
    refine pe_iconstv (n := 1) (v := 1) (by decide +kernel) (by decide +kernel) ?_
    refine pe_dup2 (by decide +kernel) ⟨rfl, rfl⟩ ?_
    refine mz_ld150 (by decide +kernel) hc hIq51 kz_1 (by omega) (by omega) (fun v56 ev56 => ?_)
    rw [show A53 150 = A 150 from ((hFq51 150 (by decide))).trans (((hFq46 150 (by decide))).trans (((hFq41 150 (by decide))).trans (((hFq38 150 (by decide))).trans ((hFq36 150 (by decide))))))] at ev56
    rw [ev56.trans ev1.symm]
    clear ev56 v56
    refine pe_iconstv (n := 1) (v := 1) (by decide +kernel) (by decide +kernel) ?_
    refine pz_add (by decide +kernel) rfl kz_1 (by omega) (by omega) (fun z57 hz57 => ?_)
    refine mz_st150 (by decide +kernel) hc hIq51 kz_1 (by omega) (by omega) (fun A58 eA58 hIA58 => ?_)
    have hx59 : ((A58 150).getD 1 0).toInt = (v1.toInt + 1) := (congrArg Int32.toInt (show (A58 150).getD 1 0 = z57 from el_eq eA58 (by rw [hIq51.2.1 150 (by decide) (by decide)]; decide))).trans hz57
    have hx60 : ((A58 150).getD 1 0).toInt = (v1.toInt + 1) := (congrArg Int32.toInt (show (A58 150).getD 1 0 = z57 from el_eq eA58 (by rw [hIq51.2.1 150 (by decide) (by decide)]; decide))).trans hz57
    exact pe_vret (by decide +kernel) rfl ⟨f52, A58, rfl, hIA58, (fun k n3 n4 n5 n6 n7 n8 n9 => ((hGq51 k n3 n4 n5 n6 n7 n8)).trans (((hGq46 k n3 n4 n5 n6 n7 n8)).trans (((hGq41 k n3 n4 n5 n6 n7 n8 n9)).trans ((hGq38 k n3 n4 n5 n6 n7 n8 n9))))), (fun k n148 n150 => (upa_fr eA58 n150).trans (((hFq51 k n148)).trans (((hFq46 k n148)).trans (((hFq41 k n148)).trans (((hFq38 k n148)).trans ((hFq36 k n148))))))), (by omega), (by omega), (by omega), trivial⟩
set_option maxRecDepth 100000 in
set_option maxHeartbeats 8000000 in
theorem ML_207_86 {X : pm_X} {d : Nat} {wc : pm_W} {Q : pm_R → Prop} {f : Nat → Int32} {A0 : Nat → List Int32} {x1 x2 x3 : Int32} (hc : wc.length = 147) (gx2 : (3 ≤ x2.toInt ∧ x2.toInt ≤ 3)) (gx3 : (0 ≤ x3.toInt ∧ x3.toInt ≤ 99)) (k_121_0 : ∀ (A' : Nat → List Int32) (y4 : Int32), MI f A' → (∀ k : Nat, k ≠ 150 → A' k = A0 k) → (81 ≤ y4.toInt ∧ y4.toInt ≤ 81) → (((A' 150).getD 1 0).toInt + (-1) * ((A0 150).getD 1 0).toInt) ≤ 0 → ((-1) * ((A' 150).getD 1 0).toInt + ((A0 150).getD 1 0).toInt) ≤ 0 → pmE pg X pg_tyl pg_cl (d + 6) 207 121 [.ref 147, .int x1, .int x2, .int x3, .int y4] [] (md wc f A') Q) : ∀ (m : Nat) (A : Nat → List Int32) (x4 : Int32), MI f A → (∀ k : Nat, k ≠ 150 → A k = A0 k) → (0 ≤ x4.toInt ∧ x4.toInt ≤ 81) → (((A 150).getD 1 0).toInt + (-1) * ((A0 150).getD 1 0).toInt) ≤ 0 → ((-1) * ((A 150).getD 1 0).toInt + ((A0 150).getD 1 0).toInt) ≤ 0 → 81 - x4.toInt < (m : Int) → pmE pg X pg_tyl pg_cl (d + 6) 207 86 [.ref 147, .int x1, .int x2, .int x3, .int x4] [] (md wc f A) Q := by
  intro m
  induction m with
  | zero =>
    intro A x4 hI hF gx4 hxi0 hxi1 hm
    exfalso
    have l0 := zi_lo x4
    have u0 := zi_hi x4
    omega
  | succ m ih =>
    intro A x4 hI hF gx4 hxi0 hxi1 hm
    refine pe_iload (j := 4) (by decide +kernel) rfl ?_
    refine pe_bipushv (n := 81) (v := 81) (by decide +kernel) (by decide +kernel) ?_
    refine pz_icmp_ge (off := 31) (t := 121) (by decide +kernel) (by decide) rfl rfl kz_81 (fun h1 => ?_) (fun h1 => ?_)
    · skip
      exact k_121_0 A x4 hI (fun k n150 => (hF k n150)) (by omega) (by omega) (by omega)
    · skip
      refine pe_aload_n (j := 0) (by decide +kernel) rfl ?_
      refine pe_get (j := 17) (ci := 12) (n := 10) (by decide +kernel) (by decide +kernel) (md_o hc) rfl ?_
      refine pe_iconstv (n := 3) (v := 3) (by decide +kernel) (by decide +kernel) ?_
      refine pe_iload (j := 4) (by decide +kernel) rfl ?_
      refine pz_add (by decide +kernel) kz_3 rfl (by omega) (by omega) (fun z2 hz2 => ?_)
      refine pe_iload (j := 4) (by decide +kernel) rfl ?_
      refine pe_bipushv (n := 10) (v := 10) (by decide +kernel) (by decide +kernel) ?_
      refine pz_rem (by decide +kernel) rfl kz_10 (by omega) (by omega) (fun z3 hz3 gz3 kz3 => ?_)
      refine pz_if_ne (off := 7) (t := 113) (by decide +kernel) (by decide) rfl rfl (fun h4 => ?_) (fun h4 => ?_)
      · skip
        refine pe_iload_n (j := 3) (by decide +kernel) rfl ?_
        refine mz_st150 (by decide +kernel) hc hI hz2 (by omega) (by omega) (fun A5 eA5 hIA5 => ?_)
        refine pz_iinc (j := 4) (n := 1) (by decide +kernel) rfl rfl (by decide +kernel) (by omega) (by omega) (fun z6 hz6 => ?_)
        show pmE pg X pg_tyl pg_cl (d + 6) 207 118 [.ref 147, .int x1, .int x2, .int x3, .int z6] [] (md wc f A5) _
        refine pe_goto (off := (-32)) (t := 86) (by decide +kernel) (by decide) rfl ?_
        have hx7 : ((A5 150).getD 1 0).toInt = ((A 150).getD 1 0).toInt := (congrArg Int32.toInt (show (A5 150).getD 1 0 = ((A 150).getD 1 0) from el_ne eA5 (by omega))).trans rfl
        have hx8 : ((A5 150).getD 1 0).toInt = ((A 150).getD 1 0).toInt := (congrArg Int32.toInt (show (A5 150).getD 1 0 = ((A 150).getD 1 0) from el_ne eA5 (by omega))).trans rfl
        exact ih A5 z6 hIA5 (fun k n150 => (upa_fr eA5 n150).trans ((hF k n150))) (by omega) (by omega) (by omega) (by omega)
      · skip
        refine pe_iconstv (n := 0) (v := 0) (by decide +kernel) (by decide +kernel) ?_
        refine pe_goto (off := 4) (t := 114) (by decide +kernel) (by decide) rfl ?_
        refine mz_st150 (by decide +kernel) hc hI hz2 (by omega) (by omega) (fun A9 eA9 hIA9 => ?_)
        refine pz_iinc (j := 4) (n := 1) (by decide +kernel) rfl rfl (by decide +kernel) (by omega) (by omega) (fun z10 hz10 => ?_)
        show pmE pg X pg_tyl pg_cl (d + 6) 207 118 [.ref 147, .int x1, .int x2, .int x3, .int z10] [] (md wc f A9) _
        refine pe_goto (off := (-32)) (t := 86) (by decide +kernel) (by decide) rfl ?_
        have hx11 : ((A9 150).getD 1 0).toInt = ((A 150).getD 1 0).toInt := (congrArg Int32.toInt (show (A9 150).getD 1 0 = ((A 150).getD 1 0) from el_ne eA9 (by omega))).trans rfl
        have hx12 : ((A9 150).getD 1 0).toInt = ((A 150).getD 1 0).toInt := (congrArg Int32.toInt (show (A9 150).getD 1 0 = ((A 150).getD 1 0) from el_ne eA9 (by omega))).trans rfl
        exact ih A9 z10 hIA9 (fun k n150 => (upa_fr eA9 n150).trans ((hF k n150))) (by omega) (by omega) (by omega) (by omega)
set_option maxRecDepth 100000 in
set_option maxHeartbeats 8000000 in
theorem MM_207 {X : pm_X} {d : Nat} {wc : pm_W} {f : Nat → Int32} {A : Nat → List Int32} (hc : wc.length = 147) (hI : MI f A) (hxp0 : ((-1) * ((A 150).getD 1 0).toInt) ≤ 0) (hxp1 : (((A 150).getD 1 0).toInt + (-100000)) ≤ 0) : pmE pg X pg_tyl pg_cl (d + 6) 207 0 (pm_ent (pm_max pg 207) [.ref 147]) [] (md wc f A) (fun q => ∃ (f' : Nat → Int32) (A' : Nat → List Int32), q = (none, md wc f' A', 0, 0) ∧ MI f' A' ∧ (∀ k : Nat, k ≠ 3 → k ≠ 4 → k ≠ 5 → k ≠ 6 → k ≠ 7 → k ≠ 8 → k ≠ 9 → f' k = f k) ∧ (∀ k : Nat, k ≠ 148 → k ≠ 150 → A' k = A k) ∧ ((-5) * (f' 3).toInt + (f' 5).toInt + (-5000) * (f' 8).toInt + 5 * (f 3).toInt + (-1) * (f 5).toInt + 4999 * (f 8).toInt + 1) ≤ 0 ∧ (((A' 150).getD 1 0).toInt + (-1) * ((A 150).getD 1 0).toInt + (-1)) ≤ 0 ∧ ((-1) * ((A' 150).getD 1 0).toInt + ((A 150).getD 1 0).toInt) ≤ 0 ∧ ((True))) := by
  show pmE pg X pg_tyl pg_cl (d + 6) 207 0 [.ref 147, pm_dead, pm_dead, pm_dead, pm_dead] [] (md wc f A) _
  refine pe_aload_n (j := 0) (by decide +kernel) rfl ?_
  refine pe_get (j := 90) (ci := 12) (n := 4) (by decide +kernel) (by decide +kernel) (md_o hc) rfl ?_
  refine pe_istore_n (j := 1) (ls' := [.ref 147, .int (f 4), pm_dead, pm_dead, pm_dead]) (by decide +kernel) (Nat.le_of_ble_eq_true rfl) rfl ?_
  refine pe_aload_n (j := 0) (by decide +kernel) rfl ?_
  refine pe_iconstv (n := 1) (v := 1) (by decide +kernel) (by decide +kernel) ?_
  refine pe_bipushv (n := 7) (v := 7) (by decide +kernel) (by decide +kernel) ?_
  have hr_3_f := hI.1 3
  simp only [MF] at hr_3_f
  have hr_5_f := hI.1 5
  simp only [MF] at hr_5_f
  have hr_8_f := hI.1 8
  simp only [MF] at hr_8_f
  refine pz_callV (j := 140) (mj := 208) (by decide +kernel) (cll_V (args := [.int 7, .int 1]) (n := 2) (by decide +kernel) rfl rfl (md_o hc) (by decide +kernel) (Nat.le_of_ble_eq_true rfl) (Nat.le_of_ble_eq_true rfl)) (MM_208 hc hI) (fun q1a q1b q1c q1d hqq1 => ?_)
  obtain ⟨f2, A3, rq1, eq1, hIq1, hGq1, hFq1, hX0q1, kq1⟩ := hqq1
  cases eq1
  refine ⟨rfl, rfl, ?_⟩
  have hr_3_f2 := hIq1.1 3
  simp only [MF] at hr_3_f2
  have hr_5_f2 := hIq1.1 5
  simp only [MF] at hr_5_f2
  have hr_8_f2 := hIq1.1 8
  simp only [MF] at hr_8_f2
  have htq1 : ((-5) * (f2 3).toInt + (f2 5).toInt + (-5000) * (f2 8).toInt + 5 * (f 3).toInt + (-1) * (f 5).toInt + 4999 * (f 8).toInt + 1) ≤ 0 := by omega
  clear hX0q1
  show pmE pg X pg_tyl pg_cl (d + 6) 207 12 [.ref 147, .int (f 4), pm_dead, pm_dead, pm_dead] [.int rq1] (md wc f2 A3) _
  refine pe_istore_n (j := 2) (ls' := [.ref 147, .int (f 4), .int rq1, pm_dead, pm_dead]) (by decide +kernel) (Nat.le_of_ble_eq_true rfl) rfl ?_
  refine pe_iload_n (j := 2) (by decide +kernel) rfl ?_
  refine pe_iconstv (n := 1) (v := 1) (by decide +kernel) (by decide +kernel) ?_
  have lw5 := zi_lo rq1
  have uw5 := zi_hi rq1
  refine pz_icmp_ne (off := 16) (t := 31) (by decide +kernel) (by decide) rfl rfl kz_1 (fun h4 => ?_) (fun h4 => ?_)
  · skip
    refine pe_iload_n (j := 2) (by decide +kernel) rfl ?_
    refine pe_iconstv (n := 2) (v := 2) (by decide +kernel) (by decide +kernel) ?_
    refine pz_icmp_ne (off := 37) (t := 70) (by decide +kernel) (by decide) rfl rfl kz_2 (fun h6 => ?_) (fun h6 => ?_)
    · skip
      refine pe_iload_n (j := 2) (by decide +kernel) rfl ?_
      refine pe_iconstv (n := 3) (v := 3) (by decide +kernel) (by decide +kernel) ?_
      refine pz_icmp_ne (off := 49) (t := 121) (by decide +kernel) (by decide) rfl rfl kz_3 (fun h7 => ?_) (fun h7 => ?_)
      · skip
        refine pe_iload_n (j := 2) (by decide +kernel) rfl ?_
        refine pe_iconstv (n := 4) (v := 4) (by decide +kernel) (by decide +kernel) ?_
        refine pz_icmp_eq (off := 8) (t := 131) (by decide +kernel) (by decide) rfl rfl kz_4 (fun h8 => ?_) (fun h8 => ?_)
        · skip
          refine pe_aload_n (j := 0) (by decide +kernel) rfl ?_
          refine pe_iconstv (n := (-1)) (v := (-1)) (by decide +kernel) (by decide +kernel) ?_
          refine pz_callV (j := 137) (mj := 212) (by decide +kernel) (cll_V (args := [.int (-1)]) (n := 1) (by decide +kernel) rfl rfl (md_o hc) (by decide +kernel) (Nat.le_of_ble_eq_true rfl) (Nat.le_of_ble_eq_true rfl)) (MM_212 hc hIq1) (fun q9a q9b q9c q9d hqq9 => ?_)
          obtain ⟨f10, A11, rq9, eq9, hIq9, hGq9, hFq9, hX0q9, kq9⟩ := hqq9
          cases eq9
          refine ⟨rfl, rfl, ?_⟩
          have hr_3_f10 := hIq9.1 3
          simp only [MF] at hr_3_f10
          have hr_5_f10 := hIq9.1 5
          simp only [MF] at hr_5_f10
          have hr_8_f10 := hIq9.1 8
          simp only [MF] at hr_8_f10
          have htq9 : ((-5) * (f10 3).toInt + (f10 5).toInt + (-5000) * (f10 8).toInt + 5 * (f 3).toInt + (-1) * (f 5).toInt + 4999 * (f 8).toInt + 1) ≤ 0 := by omega
          clear hX0q9 htq1
          show pmE pg X pg_tyl pg_cl (d + 6) 207 136 [.ref 147, .int (f 4), .int rq1, pm_dead, pm_dead] [.int rq9] (md wc f10 A11) _
          refine pe_istore_n (j := 3) (ls' := [.ref 147, .int (f 4), .int rq1, .int rq9, pm_dead]) (by decide +kernel) (Nat.le_of_ble_eq_true rfl) rfl ?_
          refine pe_iload_n (j := 2) (by decide +kernel) rfl ?_
          refine pe_iconstv (n := 4) (v := 4) (by decide +kernel) (by decide +kernel) ?_
          refine pz_icmp_ne (off := 13) (t := 152) (by decide +kernel) (by decide) rfl rfl kz_4 (fun h12 => by omega) (fun h12 => ?_)
          refine pe_aload_n (j := 0) (by decide +kernel) rfl ?_
          refine pe_iconstv (n := 0) (v := 0) (by decide +kernel) (by decide +kernel) ?_
          refine pe_bipushv (n := 99) (v := 99) (by decide +kernel) (by decide +kernel) ?_
          have hl13 := kz_0
          have hl14 := kz_99
          refine pz_callV (j := 130) (mj := 210) (by decide +kernel) (cll_V (args := [.int 99, .int 0]) (n := 2) (by decide +kernel) rfl rfl (md_o hc) (by decide +kernel) (Nat.le_of_ble_eq_true rfl) (Nat.le_of_ble_eq_true rfl)) (MM_210 hc hIq9 (by decide +kernel) (by decide +kernel) (by omega)) (fun q15a q15b q15c q15d hqq15 => ?_)
          obtain ⟨f16, A17, rq15, eq15, hIq15, hGq15, hFq15, hX0q15, hX1q15, hX2q15, kq15⟩ := hqq15
          cases eq15
          refine ⟨rfl, rfl, ?_⟩
          have hr_3_f16 := hIq15.1 3
          simp only [MF] at hr_3_f16
          have hr_5_f16 := hIq15.1 5
          simp only [MF] at hr_5_f16
          have hr_8_f16 := hIq15.1 8
          simp only [MF] at hr_8_f16
          have htq15 : ((-5) * (f16 3).toInt + (f16 5).toInt + (-5000) * (f16 8).toInt + 5 * (f 3).toInt + (-1) * (f 5).toInt + 4999 * (f 8).toInt + 1) ≤ 0 := by omega
          clear hX0q15 htq9
          show pmE pg X pg_tyl pg_cl (d + 6) 207 149 [.ref 147, .int (f 4), .int rq1, .int rq9, pm_dead] [.int rq15] (md wc f16 A17) _
          refine pe_goto (off := 10) (t := 159) (by decide +kernel) (by decide) rfl ?_
          refine pe_istore (j := 4) (ls' := [.ref 147, .int (f 4), .int rq1, .int rq9, .int rq15]) (by decide +kernel) (Nat.le_of_ble_eq_true rfl) rfl ?_
          refine pe_aload_n (j := 0) (by decide +kernel) rfl ?_
          refine pe_get (j := 17) (ci := 12) (n := 10) (by decide +kernel) (by decide +kernel) (md_o hc) rfl ?_
          refine pe_iload_n (j := 2) (by decide +kernel) rfl ?_
          refine pe_iconstv (n := 4) (v := 4) (by decide +kernel) (by decide +kernel) ?_
          refine pz_icmp_ne (off := 8) (t := 175) (by decide +kernel) (by decide) rfl rfl kz_4 (fun h18 => by omega) (fun h18 => ?_)
          refine pe_bipushv (n := 84) (v := 84) (by decide +kernel) (by decide +kernel) ?_
          refine pe_goto (off := 5) (t := 177) (by decide +kernel) (by decide) rfl ?_
          refine pe_iload_n (j := 3) (by decide +kernel) rfl ?_
          refine pz_add (by decide +kernel) kz_84 rfl (by omega) (by omega) (fun z19 hz19 => ?_)
          refine pe_iload (j := 4) (by decide +kernel) rfl ?_
          refine mz_st150 (by decide +kernel) hc hIq15 hz19 (by omega) (by omega) (fun A20 eA20 hIA20 => ?_)
          refine pe_iload_n (j := 2) (by decide +kernel) rfl ?_
          refine pe_bipushv (n := 6) (v := 6) (by decide +kernel) (by decide +kernel) ?_
          refine pz_icmp_ne (off := 16) (t := 201) (by decide +kernel) (by decide) rfl rfl kz_6 (fun h21 => ?_) (fun h21 => by omega)
          refine pe_iload_n (j := 2) (by decide +kernel) rfl ?_
          refine pe_bipushv (n := 7) (v := 7) (by decide +kernel) (by decide +kernel) ?_
          refine pz_icmp_ne (off := 8) (t := 212) (by decide +kernel) (by decide) rfl rfl kz_7 (fun h22 => ?_) (fun h22 => by omega)
          refine pe_aload_n (j := 0) (by decide +kernel) rfl ?_
          refine pz_callV (j := 147) (mj := 214) (by decide +kernel) (cll_V (args := []) (n := 0) (by decide +kernel) rfl rfl (md_o hc) (by decide +kernel) (Nat.le_of_ble_eq_true rfl) (Nat.le_of_ble_eq_true rfl)) (MM_214 hc hIA20) (fun q23a q23b q23c q23d hqq23 => ?_)
          obtain ⟨f24, A25, eq23, hIq23, hGq23, hFq23, hX0q23, kq23⟩ := hqq23
          cases eq23
          refine ⟨rfl, rfl, ?_⟩
          have hr_3_f24 := hIq23.1 3
          simp only [MF] at hr_3_f24
          have hr_5_f24 := hIq23.1 5
          simp only [MF] at hr_5_f24
          have hr_8_f24 := hIq23.1 8
          simp only [MF] at hr_8_f24
          have htq23 : ((-5) * (f24 3).toInt + (f24 5).toInt + (-5000) * (f24 8).toInt + 5 * (f 3).toInt + (-1) * (f 5).toInt + 4999 * (f 8).toInt + 1) ≤ 0 := by omega
          clear hX0q23 htq15
          show pmE pg X pg_tyl pg_cl (d + 6) 207 216 [.ref 147, .int (f 4), .int rq1, .int rq9, .int rq15] [] (md wc f24 A25) _
          have hx26 : ((A25 150).getD 1 0).toInt = ((A 150).getD 1 0).toInt := (congrArg Int32.toInt (show (A25 150).getD 1 0 = ((A 150).getD 1 0) from (el_fr (hFq23 150 (by decide))).trans ((el_ne eA20 (by omega)).trans ((el_fr (hFq15 150 (by decide))).trans ((el_fr (hFq9 150 (by decide))).trans (el_fr (hFq1 150 (by decide)))))))).trans rfl
          have hx27 : ((A25 150).getD 1 0).toInt = ((A 150).getD 1 0).toInt := (congrArg Int32.toInt (show (A25 150).getD 1 0 = ((A 150).getD 1 0) from (el_fr (hFq23 150 (by decide))).trans ((el_ne eA20 (by omega)).trans ((el_fr (hFq15 150 (by decide))).trans ((el_fr (hFq9 150 (by decide))).trans (el_fr (hFq1 150 (by decide)))))))).trans rfl
          exact pe_vret (by decide +kernel) rfl ⟨f24, A25, rfl, hIq23, (fun k n3 n4 n5 n6 n7 n8 n9 => ((hGq23 k n3 n4 n5 n6 n7 n8)).trans (((hGq15 k n3 n4 n5 n6 n7 n8)).trans (((hGq9 k n3 n4 n5 n6 n7 n8 n9)).trans ((hGq1 k n3 n4 n5 n6 n7 n8))))), (fun k n148 n150 => ((hFq23 k n148)).trans ((upa_fr eA20 n150).trans (((hFq15 k n148)).trans (((hFq9 k n148)).trans ((hFq1 k n148)))))), (by omega), (by omega), (by omega), trivial⟩
        · skip
          refine pe_iload_n (j := 2) (by decide +kernel) rfl ?_
          refine pe_iconstv (n := 5) (v := 5) (by decide +kernel) (by decide +kernel) ?_
          refine pz_icmp_ne (off := 54) (t := 182) (by decide +kernel) (by decide) rfl rfl kz_5 (fun h28 => ?_) (fun h28 => ?_)
          · skip
            refine pe_iload_n (j := 2) (by decide +kernel) rfl ?_
            refine pe_bipushv (n := 6) (v := 6) (by decide +kernel) (by decide +kernel) ?_
            refine pz_icmp_ne (off := 16) (t := 201) (by decide +kernel) (by decide) rfl rfl kz_6 (fun h29 => ?_) (fun h29 => ?_)
            · skip
              refine pe_iload_n (j := 2) (by decide +kernel) rfl ?_
              refine pe_bipushv (n := 7) (v := 7) (by decide +kernel) (by decide +kernel) ?_
              refine pz_icmp_ne (off := 8) (t := 212) (by decide +kernel) (by decide) rfl rfl kz_7 (fun h30 => ?_) (fun h30 => ?_)
              · skip
                refine pe_aload_n (j := 0) (by decide +kernel) rfl ?_
                refine pz_callV (j := 147) (mj := 214) (by decide +kernel) (cll_V (args := []) (n := 0) (by decide +kernel) rfl rfl (md_o hc) (by decide +kernel) (Nat.le_of_ble_eq_true rfl) (Nat.le_of_ble_eq_true rfl)) (MM_214 hc hIq1) (fun q31a q31b q31c q31d hqq31 => ?_)
                obtain ⟨f32, A33, eq31, hIq31, hGq31, hFq31, hX0q31, kq31⟩ := hqq31
                cases eq31
                refine ⟨rfl, rfl, ?_⟩
                have hr_3_f32 := hIq31.1 3
                simp only [MF] at hr_3_f32
                have hr_5_f32 := hIq31.1 5
                simp only [MF] at hr_5_f32
                have hr_8_f32 := hIq31.1 8
                simp only [MF] at hr_8_f32
                have htq31 : ((-5) * (f32 3).toInt + (f32 5).toInt + (-5000) * (f32 8).toInt + 5 * (f 3).toInt + (-1) * (f 5).toInt + 4999 * (f 8).toInt + 1) ≤ 0 := by omega
                clear hX0q31 htq1
                show pmE pg X pg_tyl pg_cl (d + 6) 207 216 [.ref 147, .int (f 4), .int rq1, pm_dead, pm_dead] [] (md wc f32 A33) _
                have hx34 : ((A33 150).getD 1 0).toInt = ((A 150).getD 1 0).toInt := (congrArg Int32.toInt (show (A33 150).getD 1 0 = ((A 150).getD 1 0) from (el_fr (hFq31 150 (by decide))).trans (el_fr (hFq1 150 (by decide))))).trans rfl
                have hx35 : ((A33 150).getD 1 0).toInt = ((A 150).getD 1 0).toInt := (congrArg Int32.toInt (show (A33 150).getD 1 0 = ((A 150).getD 1 0) from (el_fr (hFq31 150 (by decide))).trans (el_fr (hFq1 150 (by decide))))).trans rfl
                exact pe_vret (by decide +kernel) rfl ⟨f32, A33, rfl, hIq31, (fun k n3 n4 n5 n6 n7 n8 n9 => ((hGq31 k n3 n4 n5 n6 n7 n8)).trans ((hGq1 k n3 n4 n5 n6 n7 n8))), (fun k n148 n150 => ((hFq31 k n148)).trans ((hFq1 k n148))), (by omega), (by omega), (by omega), trivial⟩
              · skip
                refine pe_aload_n (j := 0) (by decide +kernel) rfl ?_
                refine pe_iload_n (j := 1) (by decide +kernel) rfl ?_
                have hx36 : ((A3 150).getD 1 0).toInt = ((A 150).getD 1 0).toInt := (congrArg Int32.toInt (show (A3 150).getD 1 0 = ((A 150).getD 1 0) from el_fr (hFq1 150 (by decide)))).trans rfl
                have hx37 : ((A3 150).getD 1 0).toInt = ((A 150).getD 1 0).toInt := (congrArg Int32.toInt (show (A3 150).getD 1 0 = ((A 150).getD 1 0) from el_fr (hFq1 150 (by decide)))).trans rfl
                have hx38 : ((A3 150).getD 1 0).toInt = ((A 150).getD 1 0).toInt := (congrArg Int32.toInt (show (A3 150).getD 1 0 = ((A 150).getD 1 0) from el_fr (hFq1 150 (by decide)))).trans rfl
                have hx39 : ((A3 150).getD 1 0).toInt = ((A 150).getD 1 0).toInt := (congrArg Int32.toInt (show (A3 150).getD 1 0 = ((A 150).getD 1 0) from el_fr (hFq1 150 (by decide)))).trans rfl
                refine pz_callV (j := 143) (mj := 213) (by decide +kernel) (cll_V (args := [.int (f 4)]) (n := 1) (by decide +kernel) rfl rfl (md_o hc) (by decide +kernel) (Nat.le_of_ble_eq_true rfl) (Nat.le_of_ble_eq_true rfl)) (MM_213 hc hIq1 (by omega) (by omega)) (fun q40a q40b q40c q40d hqq40 => ?_)
                obtain ⟨f41, A42, eq40, hIq40, hGq40, hFq40, hX0q40, hX1q40, hX2q40, kq40⟩ := hqq40
                cases eq40
                refine ⟨rfl, rfl, ?_⟩
                have hr_3_f41 := hIq40.1 3
                simp only [MF] at hr_3_f41
                have hr_5_f41 := hIq40.1 5
                simp only [MF] at hr_5_f41
                have hr_8_f41 := hIq40.1 8
                simp only [MF] at hr_8_f41
                have htq40 : ((-5) * (f41 3).toInt + (f41 5).toInt + (-5000) * (f41 8).toInt + 5 * (f 3).toInt + (-1) * (f 5).toInt + 4999 * (f 8).toInt + 1) ≤ 0 := by omega
                clear hX0q40 htq1
                show pmE pg X pg_tyl pg_cl (d + 6) 207 212 [.ref 147, .int (f 4), .int rq1, pm_dead, pm_dead] [] (md wc f41 A42) _
                refine pe_aload_n (j := 0) (by decide +kernel) rfl ?_
                refine pz_callV (j := 147) (mj := 214) (by decide +kernel) (cll_V (args := []) (n := 0) (by decide +kernel) rfl rfl (md_o hc) (by decide +kernel) (Nat.le_of_ble_eq_true rfl) (Nat.le_of_ble_eq_true rfl)) (MM_214 hc hIq40) (fun q43a q43b q43c q43d hqq43 => ?_)
                obtain ⟨f44, A45, eq43, hIq43, hGq43, hFq43, hX0q43, kq43⟩ := hqq43
                cases eq43
                refine ⟨rfl, rfl, ?_⟩
                have hr_3_f44 := hIq43.1 3
                simp only [MF] at hr_3_f44
                have hr_5_f44 := hIq43.1 5
                simp only [MF] at hr_5_f44
                have hr_8_f44 := hIq43.1 8
                simp only [MF] at hr_8_f44
                have htq43 : ((-5) * (f44 3).toInt + (f44 5).toInt + (-5000) * (f44 8).toInt + 5 * (f 3).toInt + (-1) * (f 5).toInt + 4999 * (f 8).toInt + 1) ≤ 0 := by omega
                clear hX0q43 htq40
                show pmE pg X pg_tyl pg_cl (d + 6) 207 216 [.ref 147, .int (f 4), .int rq1, pm_dead, pm_dead] [] (md wc f44 A45) _
                have hx46 : ((A45 150).getD 1 0).toInt = ((A42 150).getD 1 0).toInt := (congrArg Int32.toInt (show (A45 150).getD 1 0 = ((A42 150).getD 1 0) from el_fr (hFq43 150 (by decide)))).trans rfl
                have hx47 : ((A45 150).getD 1 0).toInt = ((A42 150).getD 1 0).toInt := (congrArg Int32.toInt (show (A45 150).getD 1 0 = ((A42 150).getD 1 0) from el_fr (hFq43 150 (by decide)))).trans rfl
                exact pe_vret (by decide +kernel) rfl ⟨f44, A45, rfl, hIq43, (fun k n3 n4 n5 n6 n7 n8 n9 => ((hGq43 k n3 n4 n5 n6 n7 n8)).trans (((hGq40 k n3 n4 n5 n6 n7 n8 n9)).trans ((hGq1 k n3 n4 n5 n6 n7 n8)))), (fun k n148 n150 => ((hFq43 k n148)).trans (((hFq40 k n148 n150)).trans ((hFq1 k n148)))), (by omega), (by omega), (by omega), trivial⟩
            · skip
              refine pe_aload_n (j := 0) (by decide +kernel) rfl ?_
              refine pe_get (j := 17) (ci := 12) (n := 10) (by decide +kernel) (by decide +kernel) (md_o hc) rfl ?_
              refine pe_iconstv (n := 2) (v := 2) (by decide +kernel) (by decide +kernel) ?_
              refine pe_aload_n (j := 0) (by decide +kernel) rfl ?_
              refine pe_iconstv (n := 0) (v := 0) (by decide +kernel) (by decide +kernel) ?_
              refine pe_bipushv (n := 9) (v := 9) (by decide +kernel) (by decide +kernel) ?_
              have hl48 := kz_0
              have hl49 := kz_9
              refine pz_callV (j := 130) (mj := 210) (by decide +kernel) (cll_V (args := [.int 9, .int 0]) (n := 2) (by decide +kernel) rfl rfl (md_o hc) (by decide +kernel) (Nat.le_of_ble_eq_true rfl) (Nat.le_of_ble_eq_true rfl)) (MM_210 hc hIq1 (by decide +kernel) (by decide +kernel) (by omega)) (fun q50a q50b q50c q50d hqq50 => ?_)
              obtain ⟨f51, A52, rq50, eq50, hIq50, hGq50, hFq50, hX0q50, hX1q50, hX2q50, kq50⟩ := hqq50
              cases eq50
              refine ⟨rfl, rfl, ?_⟩
              have hr_3_f51 := hIq50.1 3
              simp only [MF] at hr_3_f51
              have hr_5_f51 := hIq50.1 5
              simp only [MF] at hr_5_f51
              have hr_8_f51 := hIq50.1 8
              simp only [MF] at hr_8_f51
              have htq50 : ((-5) * (f51 3).toInt + (f51 5).toInt + (-5000) * (f51 8).toInt + 5 * (f 3).toInt + (-1) * (f 5).toInt + 4999 * (f 8).toInt + 1) ≤ 0 := by omega
              clear hX0q50 htq1
              show pmE pg X pg_tyl pg_cl (d + 6) 207 200 [.ref 147, .int (f 4), .int rq1, pm_dead, pm_dead] [.int rq50, .int 2, .ref 150] (md wc f51 A52) _
              refine mz_st150 (by decide +kernel) hc hIq50 kz_2 (by omega) (by omega) (fun A53 eA53 hIA53 => ?_)
              refine pe_iload_n (j := 2) (by decide +kernel) rfl ?_
              refine pe_bipushv (n := 7) (v := 7) (by decide +kernel) (by decide +kernel) ?_
              refine pz_icmp_ne (off := 8) (t := 212) (by decide +kernel) (by decide) rfl rfl kz_7 (fun h54 => ?_) (fun h54 => by omega)
              refine pe_aload_n (j := 0) (by decide +kernel) rfl ?_
              refine pz_callV (j := 147) (mj := 214) (by decide +kernel) (cll_V (args := []) (n := 0) (by decide +kernel) rfl rfl (md_o hc) (by decide +kernel) (Nat.le_of_ble_eq_true rfl) (Nat.le_of_ble_eq_true rfl)) (MM_214 hc hIA53) (fun q55a q55b q55c q55d hqq55 => ?_)
              obtain ⟨f56, A57, eq55, hIq55, hGq55, hFq55, hX0q55, kq55⟩ := hqq55
              cases eq55
              refine ⟨rfl, rfl, ?_⟩
              have hr_3_f56 := hIq55.1 3
              simp only [MF] at hr_3_f56
              have hr_5_f56 := hIq55.1 5
              simp only [MF] at hr_5_f56
              have hr_8_f56 := hIq55.1 8
              simp only [MF] at hr_8_f56
              have htq55 : ((-5) * (f56 3).toInt + (f56 5).toInt + (-5000) * (f56 8).toInt + 5 * (f 3).toInt + (-1) * (f 5).toInt + 4999 * (f 8).toInt + 1) ≤ 0 := by omega
              clear hX0q55 htq50
              show pmE pg X pg_tyl pg_cl (d + 6) 207 216 [.ref 147, .int (f 4), .int rq1, pm_dead, pm_dead] [] (md wc f56 A57) _
              have hx58 : ((A57 150).getD 1 0).toInt = ((A 150).getD 1 0).toInt := (congrArg Int32.toInt (show (A57 150).getD 1 0 = ((A 150).getD 1 0) from (el_fr (hFq55 150 (by decide))).trans ((el_ne eA53 (by omega)).trans ((el_fr (hFq50 150 (by decide))).trans (el_fr (hFq1 150 (by decide))))))).trans rfl
              have hx59 : ((A57 150).getD 1 0).toInt = ((A 150).getD 1 0).toInt := (congrArg Int32.toInt (show (A57 150).getD 1 0 = ((A 150).getD 1 0) from (el_fr (hFq55 150 (by decide))).trans ((el_ne eA53 (by omega)).trans ((el_fr (hFq50 150 (by decide))).trans (el_fr (hFq1 150 (by decide))))))).trans rfl
              exact pe_vret (by decide +kernel) rfl ⟨f56, A57, rfl, hIq55, (fun k n3 n4 n5 n6 n7 n8 n9 => ((hGq55 k n3 n4 n5 n6 n7 n8)).trans (((hGq50 k n3 n4 n5 n6 n7 n8)).trans ((hGq1 k n3 n4 n5 n6 n7 n8)))), (fun k n148 n150 => ((hFq55 k n148)).trans ((upa_fr eA53 n150).trans (((hFq50 k n148)).trans ((hFq1 k n148))))), (by omega), (by omega), (by omega), trivial⟩
          · skip
            refine pe_aload_n (j := 0) (by decide +kernel) rfl ?_
            refine pe_iconstv (n := (-1)) (v := (-1)) (by decide +kernel) (by decide +kernel) ?_
            refine pz_callV (j := 137) (mj := 212) (by decide +kernel) (cll_V (args := [.int (-1)]) (n := 1) (by decide +kernel) rfl rfl (md_o hc) (by decide +kernel) (Nat.le_of_ble_eq_true rfl) (Nat.le_of_ble_eq_true rfl)) (MM_212 hc hIq1) (fun q60a q60b q60c q60d hqq60 => ?_)
            obtain ⟨f61, A62, rq60, eq60, hIq60, hGq60, hFq60, hX0q60, kq60⟩ := hqq60
            cases eq60
            refine ⟨rfl, rfl, ?_⟩
            have hr_3_f61 := hIq60.1 3
            simp only [MF] at hr_3_f61
            have hr_5_f61 := hIq60.1 5
            simp only [MF] at hr_5_f61
            have hr_8_f61 := hIq60.1 8
            simp only [MF] at hr_8_f61
            have htq60 : ((-5) * (f61 3).toInt + (f61 5).toInt + (-5000) * (f61 8).toInt + 5 * (f 3).toInt + (-1) * (f 5).toInt + 4999 * (f 8).toInt + 1) ≤ 0 := by omega
            clear hX0q60 htq1
            show pmE pg X pg_tyl pg_cl (d + 6) 207 136 [.ref 147, .int (f 4), .int rq1, pm_dead, pm_dead] [.int rq60] (md wc f61 A62) _
            refine pe_istore_n (j := 3) (ls' := [.ref 147, .int (f 4), .int rq1, .int rq60, pm_dead]) (by decide +kernel) (Nat.le_of_ble_eq_true rfl) rfl ?_
            refine pe_iload_n (j := 2) (by decide +kernel) rfl ?_
            refine pe_iconstv (n := 4) (v := 4) (by decide +kernel) (by decide +kernel) ?_
            refine pz_icmp_ne (off := 13) (t := 152) (by decide +kernel) (by decide) rfl rfl kz_4 (fun h63 => ?_) (fun h63 => by omega)
            refine pe_aload_n (j := 0) (by decide +kernel) rfl ?_
            refine pe_iconstv (n := 0) (v := 0) (by decide +kernel) (by decide +kernel) ?_
            refine pe_bipushv (n := 100) (v := 100) (by decide +kernel) (by decide +kernel) ?_
            have hl64 := kz_0
            have hl65 := kz_100
            refine pz_callV (j := 130) (mj := 210) (by decide +kernel) (cll_V (args := [.int 100, .int 0]) (n := 2) (by decide +kernel) rfl rfl (md_o hc) (by decide +kernel) (Nat.le_of_ble_eq_true rfl) (Nat.le_of_ble_eq_true rfl)) (MM_210 hc hIq60 (by decide +kernel) (by decide +kernel) (by omega)) (fun q66a q66b q66c q66d hqq66 => ?_)
            obtain ⟨f67, A68, rq66, eq66, hIq66, hGq66, hFq66, hX0q66, hX1q66, hX2q66, kq66⟩ := hqq66
            cases eq66
            refine ⟨rfl, rfl, ?_⟩
            have hr_3_f67 := hIq66.1 3
            simp only [MF] at hr_3_f67
            have hr_5_f67 := hIq66.1 5
            simp only [MF] at hr_5_f67
            have hr_8_f67 := hIq66.1 8
            simp only [MF] at hr_8_f67
            have htq66 : ((-5) * (f67 3).toInt + (f67 5).toInt + (-5000) * (f67 8).toInt + 5 * (f 3).toInt + (-1) * (f 5).toInt + 4999 * (f 8).toInt + 1) ≤ 0 := by omega
            clear hX0q66 htq60
            show pmE pg X pg_tyl pg_cl (d + 6) 207 159 [.ref 147, .int (f 4), .int rq1, .int rq60, pm_dead] [.int rq66] (md wc f67 A68) _
            refine pe_istore (j := 4) (ls' := [.ref 147, .int (f 4), .int rq1, .int rq60, .int rq66]) (by decide +kernel) (Nat.le_of_ble_eq_true rfl) rfl ?_
            refine pe_aload_n (j := 0) (by decide +kernel) rfl ?_
            refine pe_get (j := 17) (ci := 12) (n := 10) (by decide +kernel) (by decide +kernel) (md_o hc) rfl ?_
            refine pe_iload_n (j := 2) (by decide +kernel) rfl ?_
            refine pe_iconstv (n := 4) (v := 4) (by decide +kernel) (by decide +kernel) ?_
            refine pz_icmp_ne (off := 8) (t := 175) (by decide +kernel) (by decide) rfl rfl kz_4 (fun h69 => ?_) (fun h69 => by omega)
            refine pe_bipushv (n := 93) (v := 93) (by decide +kernel) (by decide +kernel) ?_
            refine pe_iload_n (j := 3) (by decide +kernel) rfl ?_
            refine pz_add (by decide +kernel) kz_93 rfl (by omega) (by omega) (fun z70 hz70 => ?_)
            refine pe_iload (j := 4) (by decide +kernel) rfl ?_
            refine mz_st150 (by decide +kernel) hc hIq66 hz70 (by omega) (by omega) (fun A71 eA71 hIA71 => ?_)
            refine pe_iload_n (j := 2) (by decide +kernel) rfl ?_
            refine pe_bipushv (n := 6) (v := 6) (by decide +kernel) (by decide +kernel) ?_
            refine pz_icmp_ne (off := 16) (t := 201) (by decide +kernel) (by decide) rfl rfl kz_6 (fun h72 => ?_) (fun h72 => by omega)
            refine pe_iload_n (j := 2) (by decide +kernel) rfl ?_
            refine pe_bipushv (n := 7) (v := 7) (by decide +kernel) (by decide +kernel) ?_
            refine pz_icmp_ne (off := 8) (t := 212) (by decide +kernel) (by decide) rfl rfl kz_7 (fun h73 => ?_) (fun h73 => by omega)
            refine pe_aload_n (j := 0) (by decide +kernel) rfl ?_
            refine pz_callV (j := 147) (mj := 214) (by decide +kernel) (cll_V (args := []) (n := 0) (by decide +kernel) rfl rfl (md_o hc) (by decide +kernel) (Nat.le_of_ble_eq_true rfl) (Nat.le_of_ble_eq_true rfl)) (MM_214 hc hIA71) (fun q74a q74b q74c q74d hqq74 => ?_)
            obtain ⟨f75, A76, eq74, hIq74, hGq74, hFq74, hX0q74, kq74⟩ := hqq74
            cases eq74
            refine ⟨rfl, rfl, ?_⟩
            have hr_3_f75 := hIq74.1 3
            simp only [MF] at hr_3_f75
            have hr_5_f75 := hIq74.1 5
            simp only [MF] at hr_5_f75
            have hr_8_f75 := hIq74.1 8
            simp only [MF] at hr_8_f75
            have htq74 : ((-5) * (f75 3).toInt + (f75 5).toInt + (-5000) * (f75 8).toInt + 5 * (f 3).toInt + (-1) * (f 5).toInt + 4999 * (f 8).toInt + 1) ≤ 0 := by omega
            clear hX0q74 htq66
            show pmE pg X pg_tyl pg_cl (d + 6) 207 216 [.ref 147, .int (f 4), .int rq1, .int rq60, .int rq66] [] (md wc f75 A76) _
            have hx77 : ((A76 150).getD 1 0).toInt = ((A 150).getD 1 0).toInt := (congrArg Int32.toInt (show (A76 150).getD 1 0 = ((A 150).getD 1 0) from (el_fr (hFq74 150 (by decide))).trans ((el_ne eA71 (by omega)).trans ((el_fr (hFq66 150 (by decide))).trans ((el_fr (hFq60 150 (by decide))).trans (el_fr (hFq1 150 (by decide)))))))).trans rfl
            have hx78 : ((A76 150).getD 1 0).toInt = ((A 150).getD 1 0).toInt := (congrArg Int32.toInt (show (A76 150).getD 1 0 = ((A 150).getD 1 0) from (el_fr (hFq74 150 (by decide))).trans ((el_ne eA71 (by omega)).trans ((el_fr (hFq66 150 (by decide))).trans ((el_fr (hFq60 150 (by decide))).trans (el_fr (hFq1 150 (by decide)))))))).trans rfl
            exact pe_vret (by decide +kernel) rfl ⟨f75, A76, rfl, hIq74, (fun k n3 n4 n5 n6 n7 n8 n9 => ((hGq74 k n3 n4 n5 n6 n7 n8)).trans (((hGq66 k n3 n4 n5 n6 n7 n8)).trans (((hGq60 k n3 n4 n5 n6 n7 n8 n9)).trans ((hGq1 k n3 n4 n5 n6 n7 n8))))), (fun k n148 n150 => ((hFq74 k n148)).trans ((upa_fr eA71 n150).trans (((hFq66 k n148)).trans (((hFq60 k n148)).trans ((hFq1 k n148)))))), (by omega), (by omega), (by omega), trivial⟩
      · skip
        refine pe_aload_n (j := 0) (by decide +kernel) rfl ?_
        refine pe_iconstv (n := 0) (v := 0) (by decide +kernel) (by decide +kernel) ?_
        refine pe_bipushv (n := 99) (v := 99) (by decide +kernel) (by decide +kernel) ?_
        have hl79 := kz_0
        have hl80 := kz_99
        refine pz_callV (j := 130) (mj := 210) (by decide +kernel) (cll_V (args := [.int 99, .int 0]) (n := 2) (by decide +kernel) rfl rfl (md_o hc) (by decide +kernel) (Nat.le_of_ble_eq_true rfl) (Nat.le_of_ble_eq_true rfl)) (MM_210 hc hIq1 (by decide +kernel) (by decide +kernel) (by omega)) (fun q81a q81b q81c q81d hqq81 => ?_)
        obtain ⟨f82, A83, rq81, eq81, hIq81, hGq81, hFq81, hX0q81, hX1q81, hX2q81, kq81⟩ := hqq81
        cases eq81
        refine ⟨rfl, rfl, ?_⟩
        have hr_3_f82 := hIq81.1 3
        simp only [MF] at hr_3_f82
        have hr_5_f82 := hIq81.1 5
        simp only [MF] at hr_5_f82
        have hr_8_f82 := hIq81.1 8
        simp only [MF] at hr_8_f82
        have htq81 : ((-5) * (f82 3).toInt + (f82 5).toInt + (-5000) * (f82 8).toInt + 5 * (f 3).toInt + (-1) * (f 5).toInt + 4999 * (f 8).toInt + 1) ≤ 0 := by omega
        clear hX0q81 htq1
        show pmE pg X pg_tyl pg_cl (d + 6) 207 82 [.ref 147, .int (f 4), .int rq1, pm_dead, pm_dead] [.int rq81] (md wc f82 A83) _
        refine pe_istore_n (j := 3) (ls' := [.ref 147, .int (f 4), .int rq1, .int rq81, pm_dead]) (by decide +kernel) (Nat.le_of_ble_eq_true rfl) rfl ?_
        refine pe_iconstv (n := 0) (v := 0) (by decide +kernel) (by decide +kernel) ?_
        refine pe_istore (j := 4) (ls' := [.ref 147, .int (f 4), .int rq1, .int rq81, .int 0]) (by decide +kernel) (Nat.le_of_ble_eq_true rfl) rfl ?_
        have hx89 : ((A83 150).getD 1 0).toInt = ((A 150).getD 1 0).toInt := (congrArg Int32.toInt (show (A83 150).getD 1 0 = ((A 150).getD 1 0) from (el_fr (hFq81 150 (by decide))).trans (el_fr (hFq1 150 (by decide))))).trans rfl
        have hx90 : ((A83 150).getD 1 0).toInt = ((A 150).getD 1 0).toInt := (congrArg Int32.toInt (show (A83 150).getD 1 0 = ((A 150).getD 1 0) from (el_fr (hFq81 150 (by decide))).trans (el_fr (hFq1 150 (by decide))))).trans rfl
        have hx91 : ((A83 150).getD 1 0).toInt = ((A 150).getD 1 0).toInt := (congrArg Int32.toInt (show (A83 150).getD 1 0 = ((A 150).getD 1 0) from (el_fr (hFq81 150 (by decide))).trans (el_fr (hFq1 150 (by decide))))).trans rfl
        have hx92 : ((A83 150).getD 1 0).toInt = ((A 150).getD 1 0).toInt := (congrArg Int32.toInt (show (A83 150).getD 1 0 = ((A 150).getD 1 0) from (el_fr (hFq81 150 (by decide))).trans (el_fr (hFq1 150 (by decide))))).trans rfl
        refine ML_207_86 hc (by omega) (by omega) (fun A84 y86 hIy85 hFhIy85 gy86 hx87 hx88 => ?_) 82 A83 0 hIq81 (fun k _ => rfl) (by decide +kernel) (by omega) (by omega) (by decide +kernel)
        refine pe_iload_n (j := 2) (by decide +kernel) rfl ?_
        refine pe_iconstv (n := 4) (v := 4) (by decide +kernel) (by decide +kernel) ?_
        refine pz_icmp_eq (off := 8) (t := 131) (by decide +kernel) (by decide) rfl rfl kz_4 (fun h93 => by omega) (fun h93 => ?_)
        refine pe_iload_n (j := 2) (by decide +kernel) rfl ?_
        refine pe_iconstv (n := 5) (v := 5) (by decide +kernel) (by decide +kernel) ?_
        refine pz_icmp_ne (off := 54) (t := 182) (by decide +kernel) (by decide) rfl rfl kz_5 (fun h94 => ?_) (fun h94 => by omega)
        refine pe_iload_n (j := 2) (by decide +kernel) rfl ?_
        refine pe_bipushv (n := 6) (v := 6) (by decide +kernel) (by decide +kernel) ?_
        refine pz_icmp_ne (off := 16) (t := 201) (by decide +kernel) (by decide) rfl rfl kz_6 (fun h95 => ?_) (fun h95 => by omega)
        refine pe_iload_n (j := 2) (by decide +kernel) rfl ?_
        refine pe_bipushv (n := 7) (v := 7) (by decide +kernel) (by decide +kernel) ?_
        refine pz_icmp_ne (off := 8) (t := 212) (by decide +kernel) (by decide) rfl rfl kz_7 (fun h96 => ?_) (fun h96 => by omega)
        refine pe_aload_n (j := 0) (by decide +kernel) rfl ?_
        refine pz_callV (j := 147) (mj := 214) (by decide +kernel) (cll_V (args := []) (n := 0) (by decide +kernel) rfl rfl (md_o hc) (by decide +kernel) (Nat.le_of_ble_eq_true rfl) (Nat.le_of_ble_eq_true rfl)) (MM_214 hc hIy85) (fun q97a q97b q97c q97d hqq97 => ?_)
        obtain ⟨f98, A99, eq97, hIq97, hGq97, hFq97, hX0q97, kq97⟩ := hqq97
        cases eq97
        refine ⟨rfl, rfl, ?_⟩
        have hr_3_f98 := hIq97.1 3
        simp only [MF] at hr_3_f98
        have hr_5_f98 := hIq97.1 5
        simp only [MF] at hr_5_f98
        have hr_8_f98 := hIq97.1 8
        simp only [MF] at hr_8_f98
        have htq97 : ((-5) * (f98 3).toInt + (f98 5).toInt + (-5000) * (f98 8).toInt + 5 * (f 3).toInt + (-1) * (f 5).toInt + 4999 * (f 8).toInt + 1) ≤ 0 := by omega
        clear hX0q97 htq81
        show pmE pg X pg_tyl pg_cl (d + 6) 207 216 [.ref 147, .int (f 4), .int rq1, .int rq81, .int y86] [] (md wc f98 A99) _
        have hx100 : ((A99 150).getD 1 0).toInt = ((A84 150).getD 1 0).toInt := (congrArg Int32.toInt (show (A99 150).getD 1 0 = ((A84 150).getD 1 0) from el_fr (hFq97 150 (by decide)))).trans rfl
        have hx101 : ((A99 150).getD 1 0).toInt = ((A84 150).getD 1 0).toInt := (congrArg Int32.toInt (show (A99 150).getD 1 0 = ((A84 150).getD 1 0) from el_fr (hFq97 150 (by decide)))).trans rfl
        exact pe_vret (by decide +kernel) rfl ⟨f98, A99, rfl, hIq97, (fun k n3 n4 n5 n6 n7 n8 n9 => ((hGq97 k n3 n4 n5 n6 n7 n8)).trans (((hGq81 k n3 n4 n5 n6 n7 n8)).trans ((hGq1 k n3 n4 n5 n6 n7 n8)))), (fun k n148 n150 => ((hFq97 k n148)).trans (((hFhIy85 k n150)).trans (((hFq81 k n148)).trans ((hFq1 k n148))))), (by omega), (by omega), (by omega), trivial⟩
    · skip
      refine pe_aload_n (j := 0) (by decide +kernel) rfl ?_
      refine pe_iconstv (n := (-1)) (v := (-1)) (by decide +kernel) (by decide +kernel) ?_
      refine pz_callV (j := 137) (mj := 212) (by decide +kernel) (cll_V (args := [.int (-1)]) (n := 1) (by decide +kernel) rfl rfl (md_o hc) (by decide +kernel) (Nat.le_of_ble_eq_true rfl) (Nat.le_of_ble_eq_true rfl)) (MM_212 hc hIq1) (fun q102a q102b q102c q102d hqq102 => ?_)
      obtain ⟨f103, A104, rq102, eq102, hIq102, hGq102, hFq102, hX0q102, kq102⟩ := hqq102
      cases eq102
      refine ⟨rfl, rfl, ?_⟩
      have hr_3_f103 := hIq102.1 3
      simp only [MF] at hr_3_f103
      have hr_5_f103 := hIq102.1 5
      simp only [MF] at hr_5_f103
      have hr_8_f103 := hIq102.1 8
      simp only [MF] at hr_8_f103
      have htq102 : ((-5) * (f103 3).toInt + (f103 5).toInt + (-5000) * (f103 8).toInt + 5 * (f 3).toInt + (-1) * (f 5).toInt + 4999 * (f 8).toInt + 1) ≤ 0 := by omega
      clear hX0q102 htq1
      show pmE pg X pg_tyl pg_cl (d + 6) 207 41 [.ref 147, .int (f 4), .int rq1, pm_dead, pm_dead] [.int rq102] (md wc f103 A104) _
      refine pe_istore_n (j := 3) (ls' := [.ref 147, .int (f 4), .int rq1, .int rq102, pm_dead]) (by decide +kernel) (Nat.le_of_ble_eq_true rfl) rfl ?_
      refine pe_aload_n (j := 0) (by decide +kernel) rfl ?_
      refine pe_iload_n (j := 3) (by decide +kernel) rfl ?_
      refine pz_callV (j := 137) (mj := 212) (by decide +kernel) (cll_V (args := [.int rq102]) (n := 1) (by decide +kernel) rfl rfl (md_o hc) (by decide +kernel) (Nat.le_of_ble_eq_true rfl) (Nat.le_of_ble_eq_true rfl)) (MM_212 hc hIq102) (fun q105a q105b q105c q105d hqq105 => ?_)
      obtain ⟨f106, A107, rq105, eq105, hIq105, hGq105, hFq105, hX0q105, kq105⟩ := hqq105
      cases eq105
      refine ⟨rfl, rfl, ?_⟩
      have hr_3_f106 := hIq105.1 3
      simp only [MF] at hr_3_f106
      have hr_5_f106 := hIq105.1 5
      simp only [MF] at hr_5_f106
      have hr_8_f106 := hIq105.1 8
      simp only [MF] at hr_8_f106
      have htq105 : ((-5) * (f106 3).toInt + (f106 5).toInt + (-5000) * (f106 8).toInt + 5 * (f 3).toInt + (-1) * (f 5).toInt + 4999 * (f 8).toInt + 1) ≤ 0 := by omega
      clear hX0q105 htq102
      show pmE pg X pg_tyl pg_cl (d + 6) 207 47 [.ref 147, .int (f 4), .int rq1, .int rq102, pm_dead] [.int rq105] (md wc f106 A107) _
      refine pe_istore (j := 4) (ls' := [.ref 147, .int (f 4), .int rq1, .int rq102, .int rq105]) (by decide +kernel) (Nat.le_of_ble_eq_true rfl) rfl ?_
      refine pe_aload_n (j := 0) (by decide +kernel) rfl ?_
      refine pe_get (j := 17) (ci := 12) (n := 10) (by decide +kernel) (by decide +kernel) (md_o hc) rfl ?_
      refine pe_iconstv (n := 3) (v := 3) (by decide +kernel) (by decide +kernel) ?_
      refine pe_bipushv (n := 9) (v := 9) (by decide +kernel) (by decide +kernel) ?_
      refine pe_iload_n (j := 3) (by decide +kernel) rfl ?_
      refine pz_mul (by decide +kernel) kz_9 rfl (by omega) (by omega) (fun z108 hz108 => ?_)
      refine pz_add (by decide +kernel) kz_3 hz108 (by omega) (by omega) (fun z109 hz109 => ?_)
      clear hz108
      refine pe_iload (j := 4) (by decide +kernel) rfl ?_
      refine pz_add (by decide +kernel) hz109 rfl (by omega) (by omega) (fun z110 hz110 => ?_)
      clear hz109
      refine pe_aload_n (j := 0) (by decide +kernel) rfl ?_
      refine pe_iconstv (n := 0) (v := 0) (by decide +kernel) (by decide +kernel) ?_
      refine pe_bipushv (n := 99) (v := 99) (by decide +kernel) (by decide +kernel) ?_
      have hl111 := kz_0
      have hl112 := kz_99
      refine pz_callV (j := 130) (mj := 210) (by decide +kernel) (cll_V (args := [.int 99, .int 0]) (n := 2) (by decide +kernel) rfl rfl (md_o hc) (by decide +kernel) (Nat.le_of_ble_eq_true rfl) (Nat.le_of_ble_eq_true rfl)) (MM_210 hc hIq105 (by decide +kernel) (by decide +kernel) (by omega)) (fun q113a q113b q113c q113d hqq113 => ?_)
      obtain ⟨f114, A115, rq113, eq113, hIq113, hGq113, hFq113, hX0q113, hX1q113, hX2q113, kq113⟩ := hqq113
      cases eq113
      refine ⟨rfl, rfl, ?_⟩
      have hr_3_f114 := hIq113.1 3
      simp only [MF] at hr_3_f114
      have hr_5_f114 := hIq113.1 5
      simp only [MF] at hr_5_f114
      have hr_8_f114 := hIq113.1 8
      simp only [MF] at hr_8_f114
      have htq113 : ((-5) * (f114 3).toInt + (f114 5).toInt + (-5000) * (f114 8).toInt + 5 * (f 3).toInt + (-1) * (f 5).toInt + 4999 * (f 8).toInt + 1) ≤ 0 := by omega
      clear hX0q113 htq105
      show pmE pg X pg_tyl pg_cl (d + 6) 207 69 [.ref 147, .int (f 4), .int rq1, .int rq102, .int rq105] [.int rq113, .int z110, .ref 150] (md wc f114 A115) _
      refine mz_st150 (by decide +kernel) hc hIq113 hz110 (by omega) (by omega) (fun A116 eA116 hIA116 => ?_)
      refine pe_iload_n (j := 2) (by decide +kernel) rfl ?_
      refine pe_iconstv (n := 3) (v := 3) (by decide +kernel) (by decide +kernel) ?_
      refine pz_icmp_ne (off := 49) (t := 121) (by decide +kernel) (by decide) rfl rfl kz_3 (fun h117 => ?_) (fun h117 => by omega)
      refine pe_iload_n (j := 2) (by decide +kernel) rfl ?_
      refine pe_iconstv (n := 4) (v := 4) (by decide +kernel) (by decide +kernel) ?_
      refine pz_icmp_eq (off := 8) (t := 131) (by decide +kernel) (by decide) rfl rfl kz_4 (fun h118 => by omega) (fun h118 => ?_)
      refine pe_iload_n (j := 2) (by decide +kernel) rfl ?_
      refine pe_iconstv (n := 5) (v := 5) (by decide +kernel) (by decide +kernel) ?_
      refine pz_icmp_ne (off := 54) (t := 182) (by decide +kernel) (by decide) rfl rfl kz_5 (fun h119 => ?_) (fun h119 => by omega)
      refine pe_iload_n (j := 2) (by decide +kernel) rfl ?_
      refine pe_bipushv (n := 6) (v := 6) (by decide +kernel) (by decide +kernel) ?_
      refine pz_icmp_ne (off := 16) (t := 201) (by decide +kernel) (by decide) rfl rfl kz_6 (fun h120 => ?_) (fun h120 => by omega)
      refine pe_iload_n (j := 2) (by decide +kernel) rfl ?_
      refine pe_bipushv (n := 7) (v := 7) (by decide +kernel) (by decide +kernel) ?_
      refine pz_icmp_ne (off := 8) (t := 212) (by decide +kernel) (by decide) rfl rfl kz_7 (fun h121 => ?_) (fun h121 => by omega)
      refine pe_aload_n (j := 0) (by decide +kernel) rfl ?_
      refine pz_callV (j := 147) (mj := 214) (by decide +kernel) (cll_V (args := []) (n := 0) (by decide +kernel) rfl rfl (md_o hc) (by decide +kernel) (Nat.le_of_ble_eq_true rfl) (Nat.le_of_ble_eq_true rfl)) (MM_214 hc hIA116) (fun q122a q122b q122c q122d hqq122 => ?_)
      obtain ⟨f123, A124, eq122, hIq122, hGq122, hFq122, hX0q122, kq122⟩ := hqq122
      cases eq122
      refine ⟨rfl, rfl, ?_⟩
      have hr_3_f123 := hIq122.1 3
      simp only [MF] at hr_3_f123
      have hr_5_f123 := hIq122.1 5
      simp only [MF] at hr_5_f123
      have hr_8_f123 := hIq122.1 8
      simp only [MF] at hr_8_f123
      have htq122 : ((-5) * (f123 3).toInt + (f123 5).toInt + (-5000) * (f123 8).toInt + 5 * (f 3).toInt + (-1) * (f 5).toInt + 4999 * (f 8).toInt + 1) ≤ 0 := by omega
      clear hX0q122 htq113
      show pmE pg X pg_tyl pg_cl (d + 6) 207 216 [.ref 147, .int (f 4), .int rq1, .int rq102, .int rq105] [] (md wc f123 A124) _
      have hx125 : ((A124 150).getD 1 0).toInt = ((A 150).getD 1 0).toInt := (congrArg Int32.toInt (show (A124 150).getD 1 0 = ((A 150).getD 1 0) from (el_fr (hFq122 150 (by decide))).trans ((el_ne eA116 (by omega)).trans ((el_fr (hFq113 150 (by decide))).trans ((el_fr (hFq105 150 (by decide))).trans ((el_fr (hFq102 150 (by decide))).trans (el_fr (hFq1 150 (by decide))))))))).trans rfl
      have hx126 : ((A124 150).getD 1 0).toInt = ((A 150).getD 1 0).toInt := (congrArg Int32.toInt (show (A124 150).getD 1 0 = ((A 150).getD 1 0) from (el_fr (hFq122 150 (by decide))).trans ((el_ne eA116 (by omega)).trans ((el_fr (hFq113 150 (by decide))).trans ((el_fr (hFq105 150 (by decide))).trans ((el_fr (hFq102 150 (by decide))).trans (el_fr (hFq1 150 (by decide))))))))).trans rfl
      exact pe_vret (by decide +kernel) rfl ⟨f123, A124, rfl, hIq122, (fun k n3 n4 n5 n6 n7 n8 n9 => ((hGq122 k n3 n4 n5 n6 n7 n8)).trans (((hGq113 k n3 n4 n5 n6 n7 n8)).trans (((hGq105 k n3 n4 n5 n6 n7 n8 n9)).trans (((hGq102 k n3 n4 n5 n6 n7 n8 n9)).trans ((hGq1 k n3 n4 n5 n6 n7 n8)))))), (fun k n148 n150 => ((hFq122 k n148)).trans ((upa_fr eA116 n150).trans (((hFq113 k n148)).trans (((hFq105 k n148)).trans (((hFq102 k n148)).trans ((hFq1 k n148))))))), (by omega), (by omega), (by omega), trivial⟩
  · skip
    refine pe_aload_n (j := 0) (by decide +kernel) rfl ?_
    refine pe_get (j := 17) (ci := 12) (n := 10) (by decide +kernel) (by decide +kernel) (md_o hc) rfl ?_
    refine pe_iconstv (n := 0) (v := 0) (by decide +kernel) (by decide +kernel) ?_
    refine pe_aload_n (j := 0) (by decide +kernel) rfl ?_
    refine pe_iconstv (n := 2) (v := 2) (by decide +kernel) (by decide +kernel) ?_
    refine pe_bipushv (n := 9) (v := 9) (by decide +kernel) (by decide +kernel) ?_
    have hl127 := kz_2
    have hl128 := kz_9
    refine pz_callV (j := 130) (mj := 210) (by decide +kernel) (cll_V (args := [.int 9, .int 2]) (n := 2) (by decide +kernel) rfl rfl (md_o hc) (by decide +kernel) (Nat.le_of_ble_eq_true rfl) (Nat.le_of_ble_eq_true rfl)) (MM_210 hc hIq1 (by decide +kernel) (by decide +kernel) (by omega)) (fun q129a q129b q129c q129d hqq129 => ?_)
    obtain ⟨f130, A131, rq129, eq129, hIq129, hGq129, hFq129, hX0q129, hX1q129, hX2q129, kq129⟩ := hqq129
    cases eq129
    refine ⟨rfl, rfl, ?_⟩
    have hr_3_f130 := hIq129.1 3
    simp only [MF] at hr_3_f130
    have hr_5_f130 := hIq129.1 5
    simp only [MF] at hr_5_f130
    have hr_8_f130 := hIq129.1 8
    simp only [MF] at hr_8_f130
    have htq129 : ((-5) * (f130 3).toInt + (f130 5).toInt + (-5000) * (f130 8).toInt + 5 * (f 3).toInt + (-1) * (f 5).toInt + 4999 * (f 8).toInt + 1) ≤ 0 := by omega
    clear hX0q129 htq1
    show pmE pg X pg_tyl pg_cl (d + 6) 207 30 [.ref 147, .int (f 4), .int rq1, pm_dead, pm_dead] [.int rq129, .int 0, .ref 150] (md wc f130 A131) _
    refine mz_st150 (by decide +kernel) hc hIq129 kz_0 (by omega) (by omega) (fun A132 eA132 hIA132 => ?_)
    refine pe_iload_n (j := 2) (by decide +kernel) rfl ?_
    refine pe_iconstv (n := 2) (v := 2) (by decide +kernel) (by decide +kernel) ?_
    refine pz_icmp_ne (off := 37) (t := 70) (by decide +kernel) (by decide) rfl rfl kz_2 (fun h133 => ?_) (fun h133 => by omega)
    refine pe_iload_n (j := 2) (by decide +kernel) rfl ?_
    refine pe_iconstv (n := 3) (v := 3) (by decide +kernel) (by decide +kernel) ?_
    refine pz_icmp_ne (off := 49) (t := 121) (by decide +kernel) (by decide) rfl rfl kz_3 (fun h134 => ?_) (fun h134 => by omega)
    refine pe_iload_n (j := 2) (by decide +kernel) rfl ?_
    refine pe_iconstv (n := 4) (v := 4) (by decide +kernel) (by decide +kernel) ?_
    refine pz_icmp_eq (off := 8) (t := 131) (by decide +kernel) (by decide) rfl rfl kz_4 (fun h135 => by omega) (fun h135 => ?_)
    refine pe_iload_n (j := 2) (by decide +kernel) rfl ?_
    refine pe_iconstv (n := 5) (v := 5) (by decide +kernel) (by decide +kernel) ?_
    refine pz_icmp_ne (off := 54) (t := 182) (by decide +kernel) (by decide) rfl rfl kz_5 (fun h136 => ?_) (fun h136 => by omega)
    refine pe_iload_n (j := 2) (by decide +kernel) rfl ?_
    refine pe_bipushv (n := 6) (v := 6) (by decide +kernel) (by decide +kernel) ?_
    refine pz_icmp_ne (off := 16) (t := 201) (by decide +kernel) (by decide) rfl rfl kz_6 (fun h137 => ?_) (fun h137 => by omega)
    refine pe_iload_n (j := 2) (by decide +kernel) rfl ?_
    refine pe_bipushv (n := 7) (v := 7) (by decide +kernel) (by decide +kernel) ?_
    refine pz_icmp_ne (off := 8) (t := 212) (by decide +kernel) (by decide) rfl rfl kz_7 (fun h138 => ?_) (fun h138 => by omega)
    refine pe_aload_n (j := 0) (by decide +kernel) rfl ?_
    refine pz_callV (j := 147) (mj := 214) (by decide +kernel) (cll_V (args := []) (n := 0) (by decide +kernel) rfl rfl (md_o hc) (by decide +kernel) (Nat.le_of_ble_eq_true rfl) (Nat.le_of_ble_eq_true rfl)) (MM_214 hc hIA132) (fun q139a q139b q139c q139d hqq139 => ?_)
    obtain ⟨f140, A141, eq139, hIq139, hGq139, hFq139, hX0q139, kq139⟩ := hqq139
    cases eq139
    refine ⟨rfl, rfl, ?_⟩
    have hr_3_f140 := hIq139.1 3
    simp only [MF] at hr_3_f140
    have hr_5_f140 := hIq139.1 5
    simp only [MF] at hr_5_f140
    have hr_8_f140 := hIq139.1 8
    simp only [MF] at hr_8_f140
    have htq139 : ((-5) * (f140 3).toInt + (f140 5).toInt + (-5000) * (f140 8).toInt + 5 * (f 3).toInt + (-1) * (f 5).toInt + 4999 * (f 8).toInt + 1) ≤ 0 := by omega
    clear hX0q139 htq129
    show pmE pg X pg_tyl pg_cl (d + 6) 207 216 [.ref 147, .int (f 4), .int rq1, pm_dead, pm_dead] [] (md wc f140 A141) _
    have hx142 : ((A141 150).getD 1 0).toInt = ((A 150).getD 1 0).toInt := (congrArg Int32.toInt (show (A141 150).getD 1 0 = ((A 150).getD 1 0) from (el_fr (hFq139 150 (by decide))).trans ((el_ne eA132 (by omega)).trans ((el_fr (hFq129 150 (by decide))).trans (el_fr (hFq1 150 (by decide))))))).trans rfl
    have hx143 : ((A141 150).getD 1 0).toInt = ((A 150).getD 1 0).toInt := (congrArg Int32.toInt (show (A141 150).getD 1 0 = ((A 150).getD 1 0) from (el_fr (hFq139 150 (by decide))).trans ((el_ne eA132 (by omega)).trans ((el_fr (hFq129 150 (by decide))).trans (el_fr (hFq1 150 (by decide))))))).trans rfl
    exact pe_vret (by decide +kernel) rfl ⟨f140, A141, rfl, hIq139, (fun k n3 n4 n5 n6 n7 n8 n9 => ((hGq139 k n3 n4 n5 n6 n7 n8)).trans (((hGq129 k n3 n4 n5 n6 n7 n8)).trans ((hGq1 k n3 n4 n5 n6 n7 n8)))), (fun k n148 n150 => ((hFq139 k n148)).trans ((upa_fr eA132 n150).trans (((hFq129 k n148)).trans ((hFq1 k n148))))), (by omega), (by omega), (by omega), trivial⟩
