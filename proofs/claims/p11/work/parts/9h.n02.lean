set_option maxRecDepth 100000 in
set_option maxHeartbeats 8000000 in
theorem NM_213 {X : pm_X} {d : Nat} {wc : pm_W} {f : Nat → Int32} {A : Nat → List Int32} {x1 : Int32} (hc : wc.length = 147) (hI : MI f A) (hpp0 : JJ f A) (hpp1 : TV (A 150) (f 9).toInt (fr (A 148) 3)) (hpp2 : fr (A 150) 1 ≤ 9000) : pmE pg X pg_tyl pg_cl (d + 5) 213 0 (pm_ent (pm_max pg 213) [.ref 147, .int x1]) [] (md wc f A) (fun q => ∃ (f' : Nat → Int32) (A' : Nat → List Int32), q = (none, md wc f' A', 0, 0) ∧ MI f' A' ∧ (∀ k : Nat, k ≠ 3 → k ≠ 4 → k ≠ 5 → k ≠ 6 → k ≠ 7 → k ≠ 8 → k ≠ 9 → f' k = f k) ∧ (∀ k : Nat, k ≠ 148 → k ≠ 150 → A' k = A k) ∧ ((TX f f' A A' ∧ TV (A' 150) (f' 9).toInt (fr (A' 148) 3) ∧ fr (A' 150) 1 ≤ fr (A 150) 1 + 1 ∧ True))) := by
  show pmE pg X pg_tyl pg_cl (d + 5) 213 0 [.ref 147, .int x1, pm_dead, pm_dead, pm_dead, pm_dead, pm_dead] [] (md wc f A) _
  refine pe_aload_n (j := 0) (by decide +kernel) rfl ?_
  refine pe_get (j := 17) (ci := 12) (n := 10) (by decide +kernel) (by decide +kernel) (md_o hc) rfl ?_
  refine pe_iconstv (n := 1) (v := 1) (by decide +kernel) (by decide +kernel) ?_
  refine pz_iald (by decide +kernel) (md_a150 hc) (mlen_150 hI) kz_1 (by omega) (by omega) (fun v1 ev1 => ?_)
  have hb2 := ((hpp1 1 (by decide) (by decide)).2.1 rfl).1
  have hb3 := hpp2
  rw [(show fr (A 150) (1) = v1.toInt from congrArg Int32.toInt ev1.symm)] at hb2 hb3
  refine pe_bipushv (n := 7) (v := 7) (by decide +kernel) (by decide +kernel) ?_
  refine pz_icmp_lt (off := 9) (t := 17) (by decide +kernel) (by decide) rfl rfl kz_7 (fun h4 => ?_) (fun h4 => ?_)
  · skip
    refine pe_aload_n (j := 0) (by decide +kernel) rfl ?_
    refine pe_iconstv (n := (-1)) (v := (-1)) (by decide +kernel) (by decide +kernel) ?_
    have htx5 : TX f f A A := TX_refl hpp0
    refine pz_callV (j := 137) (mj := 212) (by decide +kernel) (cll_V (args := [.int (-1)]) (n := 1) (by decide +kernel) rfl rfl (md_o hc) (by decide +kernel) (Nat.le_of_ble_eq_true rfl) (Nat.le_of_ble_eq_true rfl)) (NM_212 hc hI htx5.2.2.2.2) (fun q6a q6b q6c q6d hqq6 => ?_)
    obtain ⟨f7, A8, rq6, eq6, hIq6, hGq6, hFq6, kq6⟩ := hqq6
    cases eq6
    refine ⟨rfl, rfl, ?_⟩
    obtain ⟨kfq6, kq6⟩ := kq6
    obtain ⟨hp9, hp10, kq6⟩ := kq6
    have htx11 := TX_trans htx5 hp9
    have htv12 := TV_tx hpp1 hp9 ((hFq6 150 (by decide)))
    show pmE pg X pg_tyl pg_cl (d + 5) 213 22 [.ref 147, .int x1, pm_dead, pm_dead, pm_dead, pm_dead, pm_dead] [.int rq6] (md wc f7 A8) _
    refine pe_istore_n (j := 2) (ls' := [.ref 147, .int x1, .int rq6, pm_dead, pm_dead, pm_dead, pm_dead]) (by decide +kernel) (Nat.le_of_ble_eq_true rfl) rfl ?_
    refine pe_aload_n (j := 0) (by decide +kernel) rfl ?_
    refine pe_iload_n (j := 2) (by decide +kernel) rfl ?_
    refine pz_callV (j := 137) (mj := 212) (by decide +kernel) (cll_V (args := [.int rq6]) (n := 1) (by decide +kernel) rfl rfl (md_o hc) (by decide +kernel) (Nat.le_of_ble_eq_true rfl) (Nat.le_of_ble_eq_true rfl)) (NM_212 hc hIq6 htx11.2.2.2.2) (fun q13a q13b q13c q13d hqq13 => ?_)
    obtain ⟨f14, A15, rq13, eq13, hIq13, hGq13, hFq13, kq13⟩ := hqq13
    cases eq13
    refine ⟨rfl, rfl, ?_⟩
    obtain ⟨kfq13, kq13⟩ := kq13
    obtain ⟨hp16, hp17, kq13⟩ := kq13
    have htx18 := TX_trans htx11 hp16
    have hge19 : rq6.toInt ≤ (f14 9).toInt := Int.le_trans hp10 hp16.2.2.2.1
    have htv20 := TV_tx htv12 hp16 ((hFq13 150 (by decide)))
    show pmE pg X pg_tyl pg_cl (d + 5) 213 28 [.ref 147, .int x1, .int rq6, pm_dead, pm_dead, pm_dead, pm_dead] [.int rq13] (md wc f14 A15) _
    refine pe_istore_n (j := 3) (ls' := [.ref 147, .int x1, .int rq6, .int rq13, pm_dead, pm_dead, pm_dead]) (by decide +kernel) (Nat.le_of_ble_eq_true rfl) rfl ?_
    refine pe_aload_n (j := 0) (by decide +kernel) rfl ?_
    refine pe_iconstv (n := 1) (v := 1) (by decide +kernel) (by decide +kernel) ?_
    refine pe_bipushv (n := 99) (v := 99) (by decide +kernel) (by decide +kernel) ?_
    have hl21 := kz_1
    have hl22 := kz_99
    refine pz_callV (j := 130) (mj := 210) (by decide +kernel) (cll_V (args := [.int 99, .int 1]) (n := 2) (by decide +kernel) rfl rfl (md_o hc) (by decide +kernel) (Nat.le_of_ble_eq_true rfl) (Nat.le_of_ble_eq_true rfl)) (NM_210 hc hIq13 (by decide +kernel) (by decide +kernel) (by omega) htx18.2.2.2.2) (fun q23a q23b q23c q23d hqq23 => ?_)
    obtain ⟨f24, A25, rq23, eq23, hIq23, hGq23, hFq23, hX0q23, hX1q23, kq23⟩ := hqq23
    cases eq23
    refine ⟨rfl, rfl, ?_⟩
    obtain ⟨kfq23, kq23⟩ := kq23
    obtain ⟨hp26, hp27, kq23⟩ := kq23
    have htx28 := TX_trans htx18 hp26
    have hge29 : rq6.toInt ≤ (f24 9).toInt := Int.le_trans hge19 hp26.2.2.2.1
    have hge30 : rq13.toInt ≤ (f24 9).toInt := Int.le_trans hp17 hp26.2.2.2.1
    have htv31 := TV_tx htv20 hp26 ((hFq23 150 (by decide)))
    show pmE pg X pg_tyl pg_cl (d + 5) 213 36 [.ref 147, .int x1, .int rq6, .int rq13, pm_dead, pm_dead, pm_dead] [.int rq23] (md wc f24 A25) _
    refine pe_istore (j := 4) (ls' := [.ref 147, .int x1, .int rq6, .int rq13, .int rq23, pm_dead, pm_dead]) (by decide +kernel) (Nat.le_of_ble_eq_true rfl) rfl ?_
    refine pe_aload_n (j := 0) (by decide +kernel) rfl ?_
    refine pe_iconstv (n := 0) (v := 0) (by decide +kernel) (by decide +kernel) ?_
    refine pe_bipushv (n := 99) (v := 99) (by decide +kernel) (by decide +kernel) ?_
    have hl32 := kz_0
    have hl33 := kz_99
    refine pz_callV (j := 130) (mj := 210) (by decide +kernel) (cll_V (args := [.int 99, .int 0]) (n := 2) (by decide +kernel) rfl rfl (md_o hc) (by decide +kernel) (Nat.le_of_ble_eq_true rfl) (Nat.le_of_ble_eq_true rfl)) (NM_210 hc hIq23 (by decide +kernel) (by decide +kernel) (by omega) htx28.2.2.2.2) (fun q34a q34b q34c q34d hqq34 => ?_)
    obtain ⟨f35, A36, rq34, eq34, hIq34, hGq34, hFq34, hX0q34, hX1q34, kq34⟩ := hqq34
    cases eq34
    refine ⟨rfl, rfl, ?_⟩
    obtain ⟨kfq34, kq34⟩ := kq34
    obtain ⟨hp37, hp38, kq34⟩ := kq34
    have htx39 := TX_trans htx28 hp37
    have hge40 : rq6.toInt ≤ (f35 9).toInt := Int.le_trans hge29 hp37.2.2.2.1
    have hge41 : rq13.toInt ≤ (f35 9).toInt := Int.le_trans hge30 hp37.2.2.2.1
    have htv42 := TV_tx htv31 hp37 ((hFq34 150 (by decide)))
    show pmE pg X pg_tyl pg_cl (d + 5) 213 45 [.ref 147, .int x1, .int rq6, .int rq13, .int rq23, pm_dead, pm_dead] [.int rq34] (md wc f35 A36) _
    refine pe_istore (j := 5) (ls' := [.ref 147, .int x1, .int rq6, .int rq13, .int rq23, .int rq34, pm_dead]) (by decide +kernel) (Nat.le_of_ble_eq_true rfl) rfl ?_
    refine pe_aload_n (j := 0) (by decide +kernel) rfl ?_
    refine pe_get (j := 17) (ci := 12) (n := 10) (by decide +kernel) (by decide +kernel) (md_o hc) rfl ?_
    refine pe_iconstv (n := 1) (v := 1) (by decide +kernel) (by decide +kernel) ?_
    refine pz_iald (by decide +kernel) (md_a150 hc) (mlen_150 hIq34) kz_1 (by omega) (by omega) (fun v43 ev43 => ?_)
    rw [show A36 150 = A 150 from ((hFq34 150 (by decide))).trans (((hFq23 150 (by decide))).trans (((hFq13 150 (by decide))).trans ((hFq6 150 (by decide)))))] at ev43
    rw [ev43.trans ev1.symm]
    clear ev43 v43
    refine pe_bipushv (n := 7) (v := 7) (by decide +kernel) (by decide +kernel) ?_
    refine pz_icmp_ge (off := 56) (t := 111) (by decide +kernel) (by decide) rfl rfl kz_7 (fun h44 => by omega) (fun h44 => ?_)
    refine pe_bipushv (n := 102) (v := 102) (by decide +kernel) (by decide +kernel) ?_
    refine pe_iconstv (n := 4) (v := 4) (by decide +kernel) (by decide +kernel) ?_
    refine pe_aload_n (j := 0) (by decide +kernel) rfl ?_
    refine pe_get (j := 17) (ci := 12) (n := 10) (by decide +kernel) (by decide +kernel) (md_o hc) rfl ?_
    refine pe_iconstv (n := 1) (v := 1) (by decide +kernel) (by decide +kernel) ?_
    refine pz_iald (by decide +kernel) (md_a150 hc) (mlen_150 hIq34) kz_1 (by omega) (by omega) (fun v45 ev45 => ?_)
    rw [show A36 150 = A 150 from ((hFq34 150 (by decide))).trans (((hFq23 150 (by decide))).trans (((hFq13 150 (by decide))).trans ((hFq6 150 (by decide)))))] at ev45
    rw [ev45.trans ev1.symm]
    clear ev45 v45
    refine pz_mul (by decide +kernel) kz_4 rfl (by omega) (by omega) (fun z46 hz46 => ?_)
    refine pz_add (by decide +kernel) kz_102 hz46 (by omega) (by omega) (fun z47 hz47 => ?_)
    clear hz46
    refine pe_istore (j := 6) (ls' := [.ref 147, .int x1, .int rq6, .int rq13, .int rq23, .int rq34, .int z47]) (by decide +kernel) (Nat.le_of_ble_eq_true rfl) rfl ?_
    refine pe_aload_n (j := 0) (by decide +kernel) rfl ?_
    refine pe_get (j := 17) (ci := 12) (n := 10) (by decide +kernel) (by decide +kernel) (md_o hc) rfl ?_
    refine pe_iload (j := 6) (by decide +kernel) rfl ?_
    refine pe_iload_n (j := 2) (by decide +kernel) rfl ?_
    refine mz_st150 (by decide +kernel) hc hIq34 hz47 (by omega) (by omega) (fun A48 eA48 hIA48 => ?_)
    refine pe_aload_n (j := 0) (by decide +kernel) rfl ?_
    refine pe_get (j := 17) (ci := 12) (n := 10) (by decide +kernel) (by decide +kernel) (md_o hc) rfl ?_
    refine pe_iload (j := 6) (by decide +kernel) rfl ?_
    refine pe_iconstv (n := 1) (v := 1) (by decide +kernel) (by decide +kernel) ?_
    refine pz_add (by decide +kernel) hz47 kz_1 (by omega) (by omega) (fun z49 hz49 => ?_)
    refine pe_iload_n (j := 3) (by decide +kernel) rfl ?_
    refine mz_st150 (by decide +kernel) hc hIA48 hz49 (by omega) (by omega) (fun A50 eA50 hIA50 => ?_)
    refine pe_aload_n (j := 0) (by decide +kernel) rfl ?_
    refine pe_get (j := 17) (ci := 12) (n := 10) (by decide +kernel) (by decide +kernel) (md_o hc) rfl ?_
    refine pe_iload (j := 6) (by decide +kernel) rfl ?_
    refine pe_iconstv (n := 2) (v := 2) (by decide +kernel) (by decide +kernel) ?_
    refine pz_add (by decide +kernel) hz47 kz_2 (by omega) (by omega) (fun z51 hz51 => ?_)
    refine pe_iload (j := 4) (by decide +kernel) rfl ?_
    refine mz_st150 (by decide +kernel) hc hIA50 hz51 (by omega) (by omega) (fun A52 eA52 hIA52 => ?_)
    refine pe_aload_n (j := 0) (by decide +kernel) rfl ?_
    refine pe_get (j := 17) (ci := 12) (n := 10) (by decide +kernel) (by decide +kernel) (md_o hc) rfl ?_
    refine pe_iload (j := 6) (by decide +kernel) rfl ?_
    refine pe_iconstv (n := 3) (v := 3) (by decide +kernel) (by decide +kernel) ?_
    refine pz_add (by decide +kernel) hz47 kz_3 (by omega) (by omega) (fun z53 hz53 => ?_)
    refine pe_iload (j := 5) (by decide +kernel) rfl ?_
    refine mz_st150 (by decide +kernel) hc hIA52 hz53 (by omega) (by omega) (fun A54 eA54 hIA54 => ?_)
    refine pe_aload_n (j := 0) (by decide +kernel) rfl ?_
    refine pe_get (j := 17) (ci := 12) (n := 10) (by decide +kernel) (by decide +kernel) (md_o hc) rfl ?_
    refine pe_iconstv (n := 1) (v := 1) (by decide +kernel) (by decide +kernel) ?_
    refine pe_dup2 (by decide +kernel) ⟨rfl, rfl⟩ ?_
    refine pz_iald (by decide +kernel) (md_a150 hc) (mlen_150 hIA54) kz_1 (by omega) (by omega) (fun v55 ev55 => ?_)
    have hv156 : v55.toInt = v1.toInt := by rw [← (show fr (A54 150) (1) = v55.toInt from congrArg Int32.toInt ev55.symm), show fr (A54 150) 1 = fr (A52 150) 1 by rw [upa_at eA54, fr_ne (i := ((102 + (4 * v1.toInt)) + 3)) (by omega) (by decide) (by omega)], show fr (A52 150) 1 = fr (A50 150) 1 by rw [upa_at eA52, fr_ne (i := ((102 + (4 * v1.toInt)) + 2)) (by omega) (by decide) (by omega)], show fr (A50 150) 1 = fr (A48 150) 1 by rw [upa_at eA50, fr_ne (i := ((102 + (4 * v1.toInt)) + 1)) (by omega) (by decide) (by omega)], show fr (A48 150) 1 = fr (A36 150) 1 by rw [upa_at eA48, fr_ne (i := (102 + (4 * v1.toInt))) (by omega) (by decide) (by omega)], show A36 150 = A25 150 from (hFq34 150 (by decide)), show A25 150 = A15 150 from (hFq23 150 (by decide)), show A15 150 = A8 150 from (hFq13 150 (by decide)), show A8 150 = A 150 from (hFq6 150 (by decide)), (show fr (A 150) (1) = v1.toInt from congrArg Int32.toInt ev1.symm)]
    refine pe_iconstv (n := 1) (v := 1) (by decide +kernel) (by decide +kernel) ?_
    refine pz_add (by decide +kernel) rfl kz_1 (by omega) (by omega) (fun z57 hz57 => ?_)
    refine mz_st150 (by decide +kernel) hc hIA54 kz_1 (by omega) (by omega) (fun A58 eA58 hIA58 => ?_)
    have htv59 : TV (A48 150) (f35 9).toInt (fr (A48 148) 3) := by rw [upa_at eA48, upa_fr eA48 (by decide : (148 : Nat) ≠ 150)]; exact TV_set (i := (102 + (4 * v1.toInt))) htv42 (by omega) (by omega) (mlen_150 hIq34) (by unfold TVi; omega)
    have htv60 : TV (A50 150) (f35 9).toInt (fr (A50 148) 3) := by rw [upa_at eA50, upa_fr eA50 (by decide : (148 : Nat) ≠ 150)]; exact TV_set (i := ((102 + (4 * v1.toInt)) + 1)) htv59 (by omega) (by omega) (mlen_150 hIA48) (by unfold TVi; omega)
    have htv61 : TV (A52 150) (f35 9).toInt (fr (A52 148) 3) := by rw [upa_at eA52, upa_fr eA52 (by decide : (148 : Nat) ≠ 150)]; exact TV_set (i := ((102 + (4 * v1.toInt)) + 2)) htv60 (by omega) (by omega) (mlen_150 hIA50) (by unfold TVi; omega)
    have htv62 : TV (A54 150) (f35 9).toInt (fr (A54 148) 3) := by rw [upa_at eA54, upa_fr eA54 (by decide : (148 : Nat) ≠ 150)]; exact TV_set (i := ((102 + (4 * v1.toInt)) + 3)) htv61 (by omega) (by omega) (mlen_150 hIA52) (by unfold TVi; omega)
    have htv63 : TV (A58 150) (f35 9).toInt (fr (A58 148) 3) := by rw [upa_at eA58, upa_fr eA58 (by decide : (148 : Nat) ≠ 150)]; exact TV_set (i := 1) htv62 (by omega) (by omega) (mlen_150 hIA54) (by have hl64 := kz_1; unfold TVi; omega)
    have htx65 := TX_fr (f2 := f35) (A2 := A58) htx39 (rfl) (rfl) (rfl) (by rw [show f35 9 = f35 9 from rfl]; exact Int.le_refl _) ((upa_fr eA58 (by decide)).trans ((upa_fr eA54 (by decide)).trans ((upa_fr eA52 (by decide)).trans ((upa_fr eA50 (by decide)).trans (upa_fr eA48 (by decide))))))
    exact pe_vret (by decide +kernel) rfl ⟨f35, A58, rfl, hIA58, (fun k n3 n4 n5 n6 n7 n8 n9 => ((hGq34 k n3 n4 n5 n6 n7 n8)).trans (((hGq23 k n3 n4 n5 n6 n7 n8)).trans (((hGq13 k n3 n4 n5 n6 n7 n8 n9)).trans ((hGq6 k n3 n4 n5 n6 n7 n8 n9))))), (fun k n148 n150 => (upa_fr eA58 n150).trans ((upa_fr eA54 n150).trans ((upa_fr eA52 n150).trans ((upa_fr eA50 n150).trans ((upa_fr eA48 n150).trans (((hFq34 k n148)).trans (((hFq23 k n148)).trans (((hFq13 k n148)).trans ((hFq6 k n148)))))))))), ⟨htx65, htv63, (by rw [upa_at eA58, fr_eq (by decide) (by rw [mlen_150 hIA54]; decide), (show fr (A 150) (1) = v1.toInt from congrArg Int32.toInt ev1.symm)]; omega), trivial⟩⟩
  · skip
    refine pe_aload_n (j := 0) (by decide +kernel) rfl ?_
    refine pe_iconstv (n := 3) (v := 3) (by decide +kernel) (by decide +kernel) ?_
    refine pe_iload_n (j := 1) (by decide +kernel) rfl ?_
    have htx66 : TX f f A A := TX_refl hpp0
    refine pz_callV (j := 123) (mj := 211) (by decide +kernel) (cll_V (args := [.int x1, .int 3]) (n := 2) (by decide +kernel) rfl rfl (md_o hc) (by decide +kernel) (Nat.le_of_ble_eq_true rfl) (Nat.le_of_ble_eq_true rfl)) (NM_211 hc hI (by decide +kernel) htx66.2.2.2.2) (fun q67a q67b q67c q67d hqq67 => ?_)
    obtain ⟨A68, eq67, hIq67, hFq67, kq67⟩ := hqq67
    cases eq67
    refine ⟨rfl, rfl, ?_⟩
    obtain ⟨hp69, hp70, kq67⟩ := kq67
    have htx71 := TX_trans htx66 hp69
    have htv72 := TV_tx hpp1 hp69 ((hFq67 150 (by decide)))
    show pmE pg X pg_tyl pg_cl (d + 5) 213 17 [.ref 147, .int x1, pm_dead, pm_dead, pm_dead, pm_dead, pm_dead] [] (md wc f A68) _
    refine pe_aload_n (j := 0) (by decide +kernel) rfl ?_
    refine pe_iconstv (n := (-1)) (v := (-1)) (by decide +kernel) (by decide +kernel) ?_
    refine pz_callV (j := 137) (mj := 212) (by decide +kernel) (cll_V (args := [.int (-1)]) (n := 1) (by decide +kernel) rfl rfl (md_o hc) (by decide +kernel) (Nat.le_of_ble_eq_true rfl) (Nat.le_of_ble_eq_true rfl)) (NM_212 hc hIq67 htx71.2.2.2.2) (fun q73a q73b q73c q73d hqq73 => ?_)
    obtain ⟨f74, A75, rq73, eq73, hIq73, hGq73, hFq73, kq73⟩ := hqq73
    cases eq73
    refine ⟨rfl, rfl, ?_⟩
    obtain ⟨kfq73, kq73⟩ := kq73
    obtain ⟨hp76, hp77, kq73⟩ := kq73
    have htx78 := TX_trans htx71 hp76
    have hft79 := hp76.1 hp70
    have htv80 := TV_tx htv72 hp76 ((hFq73 150 (by decide)))
    show pmE pg X pg_tyl pg_cl (d + 5) 213 22 [.ref 147, .int x1, pm_dead, pm_dead, pm_dead, pm_dead, pm_dead] [.int rq73] (md wc f74 A75) _
    refine pe_istore_n (j := 2) (ls' := [.ref 147, .int x1, .int rq73, pm_dead, pm_dead, pm_dead, pm_dead]) (by decide +kernel) (Nat.le_of_ble_eq_true rfl) rfl ?_
    refine pe_aload_n (j := 0) (by decide +kernel) rfl ?_
    refine pe_iload_n (j := 2) (by decide +kernel) rfl ?_
    refine pz_callV (j := 137) (mj := 212) (by decide +kernel) (cll_V (args := [.int rq73]) (n := 1) (by decide +kernel) rfl rfl (md_o hc) (by decide +kernel) (Nat.le_of_ble_eq_true rfl) (Nat.le_of_ble_eq_true rfl)) (NM_212 hc hIq73 htx78.2.2.2.2) (fun q81a q81b q81c q81d hqq81 => ?_)
    obtain ⟨f82, A83, rq81, eq81, hIq81, hGq81, hFq81, kq81⟩ := hqq81
    cases eq81
    refine ⟨rfl, rfl, ?_⟩
    obtain ⟨kfq81, kq81⟩ := kq81
    obtain ⟨hp84, hp85, kq81⟩ := kq81
    have htx86 := TX_trans htx78 hp84
    have hge87 : rq73.toInt ≤ (f82 9).toInt := Int.le_trans hp77 hp84.2.2.2.1
    have hft88 := hp84.1 hft79
    have htv89 := TV_tx htv80 hp84 ((hFq81 150 (by decide)))
    show pmE pg X pg_tyl pg_cl (d + 5) 213 28 [.ref 147, .int x1, .int rq73, pm_dead, pm_dead, pm_dead, pm_dead] [.int rq81] (md wc f82 A83) _
    refine pe_istore_n (j := 3) (ls' := [.ref 147, .int x1, .int rq73, .int rq81, pm_dead, pm_dead, pm_dead]) (by decide +kernel) (Nat.le_of_ble_eq_true rfl) rfl ?_
    refine pe_aload_n (j := 0) (by decide +kernel) rfl ?_
    refine pe_iconstv (n := 1) (v := 1) (by decide +kernel) (by decide +kernel) ?_
    refine pe_bipushv (n := 99) (v := 99) (by decide +kernel) (by decide +kernel) ?_
    have hl90 := kz_1
    have hl91 := kz_99
    refine pz_callV (j := 130) (mj := 210) (by decide +kernel) (cll_V (args := [.int 99, .int 1]) (n := 2) (by decide +kernel) rfl rfl (md_o hc) (by decide +kernel) (Nat.le_of_ble_eq_true rfl) (Nat.le_of_ble_eq_true rfl)) (NM_210 hc hIq81 (by decide +kernel) (by decide +kernel) (by omega) htx86.2.2.2.2) (fun q92a q92b q92c q92d hqq92 => ?_)
    obtain ⟨f93, A94, rq92, eq92, hIq92, hGq92, hFq92, hX0q92, hX1q92, kq92⟩ := hqq92
    cases eq92
    refine ⟨rfl, rfl, ?_⟩
    obtain ⟨kfq92, kq92⟩ := kq92
    obtain ⟨hp95, hp96, kq92⟩ := kq92
    have htx97 := TX_trans htx86 hp95
    have hge98 : rq73.toInt ≤ (f93 9).toInt := Int.le_trans hge87 hp95.2.2.2.1
    have hge99 : rq81.toInt ≤ (f93 9).toInt := Int.le_trans hp85 hp95.2.2.2.1
    have hft100 := hp95.1 hft88
    have htv101 := TV_tx htv89 hp95 ((hFq92 150 (by decide)))
    show pmE pg X pg_tyl pg_cl (d + 5) 213 36 [.ref 147, .int x1, .int rq73, .int rq81, pm_dead, pm_dead, pm_dead] [.int rq92] (md wc f93 A94) _
    refine pe_istore (j := 4) (ls' := [.ref 147, .int x1, .int rq73, .int rq81, .int rq92, pm_dead, pm_dead]) (by decide +kernel) (Nat.le_of_ble_eq_true rfl) rfl ?_
    refine pe_aload_n (j := 0) (by decide +kernel) rfl ?_
    refine pe_iconstv (n := 0) (v := 0) (by decide +kernel) (by decide +kernel) ?_
    refine pe_bipushv (n := 99) (v := 99) (by decide +kernel) (by decide +kernel) ?_
    have hl102 := kz_0
    have hl103 := kz_99
    refine pz_callV (j := 130) (mj := 210) (by decide +kernel) (cll_V (args := [.int 99, .int 0]) (n := 2) (by decide +kernel) rfl rfl (md_o hc) (by decide +kernel) (Nat.le_of_ble_eq_true rfl) (Nat.le_of_ble_eq_true rfl)) (NM_210 hc hIq92 (by decide +kernel) (by decide +kernel) (by omega) htx97.2.2.2.2) (fun q104a q104b q104c q104d hqq104 => ?_)
    obtain ⟨f105, A106, rq104, eq104, hIq104, hGq104, hFq104, hX0q104, hX1q104, kq104⟩ := hqq104
    cases eq104
    refine ⟨rfl, rfl, ?_⟩
    obtain ⟨kfq104, kq104⟩ := kq104
    obtain ⟨hp107, hp108, kq104⟩ := kq104
    have htx109 := TX_trans htx97 hp107
    have hge110 : rq73.toInt ≤ (f105 9).toInt := Int.le_trans hge98 hp107.2.2.2.1
    have hge111 : rq81.toInt ≤ (f105 9).toInt := Int.le_trans hge99 hp107.2.2.2.1
    have hft112 := hp107.1 hft100
    have htv113 := TV_tx htv101 hp107 ((hFq104 150 (by decide)))
    show pmE pg X pg_tyl pg_cl (d + 5) 213 45 [.ref 147, .int x1, .int rq73, .int rq81, .int rq92, pm_dead, pm_dead] [.int rq104] (md wc f105 A106) _
    refine pe_istore (j := 5) (ls' := [.ref 147, .int x1, .int rq73, .int rq81, .int rq92, .int rq104, pm_dead]) (by decide +kernel) (Nat.le_of_ble_eq_true rfl) rfl ?_
    refine pe_aload_n (j := 0) (by decide +kernel) rfl ?_
    refine pe_get (j := 17) (ci := 12) (n := 10) (by decide +kernel) (by decide +kernel) (md_o hc) rfl ?_
    refine pe_iconstv (n := 1) (v := 1) (by decide +kernel) (by decide +kernel) ?_
    refine pz_iald (by decide +kernel) (md_a150 hc) (mlen_150 hIq104) kz_1 (by omega) (by omega) (fun v114 ev114 => ?_)
    rw [show A106 150 = A 150 from ((hFq104 150 (by decide))).trans (((hFq92 150 (by decide))).trans (((hFq81 150 (by decide))).trans (((hFq73 150 (by decide))).trans ((hFq67 150 (by decide))))))] at ev114
    rw [ev114.trans ev1.symm]
    clear ev114 v114
    refine pe_bipushv (n := 7) (v := 7) (by decide +kernel) (by decide +kernel) ?_
    refine pz_icmp_ge (off := 56) (t := 111) (by decide +kernel) (by decide) rfl rfl kz_7 (fun h115 => ?_) (fun h115 => by omega)
    refine pe_aload_n (j := 0) (by decide +kernel) rfl ?_
    refine pe_get (j := 17) (ci := 12) (n := 10) (by decide +kernel) (by decide +kernel) (md_o hc) rfl ?_
    refine pe_iconstv (n := 1) (v := 1) (by decide +kernel) (by decide +kernel) ?_
    refine pe_dup2 (by decide +kernel) ⟨rfl, rfl⟩ ?_
    refine pz_iald (by decide +kernel) (md_a150 hc) (mlen_150 hIq104) kz_1 (by omega) (by omega) (fun v116 ev116 => ?_)
    rw [show A106 150 = A 150 from ((hFq104 150 (by decide))).trans (((hFq92 150 (by decide))).trans (((hFq81 150 (by decide))).trans (((hFq73 150 (by decide))).trans ((hFq67 150 (by decide))))))] at ev116
    rw [ev116.trans ev1.symm]
    clear ev116 v116
    refine pe_iconstv (n := 1) (v := 1) (by decide +kernel) (by decide +kernel) ?_
    refine pz_add (by decide +kernel) rfl kz_1 (by omega) (by omega) (fun z117 hz117 => ?_)
    refine mz_st150 (by decide +kernel) hc hIq104 kz_1 (by omega) (by omega) (fun A118 eA118 hIA118 => ?_)
    have htv119 : TV (A118 150) (f105 9).toInt (fr (A118 148) 3) := by rw [upa_at eA118, upa_fr eA118 (by decide : (148 : Nat) ≠ 150)]; exact TV_set (i := 1) htv113 (by omega) (by omega) (mlen_150 hIq104) (by have hl120 := kz_1; have hft := hft112; rw [← show A106 148 = A106 148 from rfl] at hft; unfold TVi; omega)
    have htx121 := TX_fr (f2 := f105) (A2 := A118) htx109 (rfl) (rfl) (rfl) (by rw [show f105 9 = f105 9 from rfl]; exact Int.le_refl _) (upa_fr eA118 (by decide))
    exact pe_vret (by decide +kernel) rfl ⟨f105, A118, rfl, hIA118, (fun k n3 n4 n5 n6 n7 n8 n9 => ((hGq104 k n3 n4 n5 n6 n7 n8)).trans (((hGq92 k n3 n4 n5 n6 n7 n8)).trans (((hGq81 k n3 n4 n5 n6 n7 n8 n9)).trans ((hGq73 k n3 n4 n5 n6 n7 n8 n9))))), (fun k n148 n150 => (upa_fr eA118 n150).trans (((hFq104 k n148)).trans (((hFq92 k n148)).trans (((hFq81 k n148)).trans (((hFq73 k n148)).trans ((hFq67 k n148))))))), ⟨htx121, htv119, (by rw [upa_at eA118, fr_eq (by decide) (by rw [mlen_150 hIq104]; decide), (show fr (A 150) (1) = v1.toInt from congrArg Int32.toInt ev1.symm)]; omega), trivial⟩⟩
set_option maxRecDepth 100000 in
set_option maxHeartbeats 8000000 in
theorem NL_207_86 {X : pm_X} {d : Nat} {wc : pm_W} {Q : pm_R → Prop} {f : Nat → Int32} {A0 : Nat → List Int32} {x1 x2 x3 : Int32} (hc : wc.length = 147) (gx2 : (3 ≤ x2.toInt ∧ x2.toInt ≤ 3)) (gx3 : (0 ≤ x3.toInt ∧ x3.toInt ≤ 99)) (k_121_0 : ∀ (A' : Nat → List Int32) (y4 : Int32), MI f A' → (∀ k : Nat, k ≠ 150 → A' k = A0 k) → (81 ≤ y4.toInt ∧ y4.toInt ≤ 81) → TV (A' 150) (f 9).toInt (fr (A0 148) 3) → fr (A' 150) 1 ≤ fr (A0 150) 1 → pmE pg X pg_tyl pg_cl (d + 6) 207 121 [.ref 147, .int x1, .int x2, .int x3, .int y4] [] (md wc f A') Q) : ∀ (m : Nat) (A : Nat → List Int32) (x4 : Int32), MI f A → (∀ k : Nat, k ≠ 150 → A k = A0 k) → (0 ≤ x4.toInt ∧ x4.toInt ≤ 81) → TV (A 150) (f 9).toInt (fr (A0 148) 3) → fr (A 150) 1 ≤ fr (A0 150) 1 → 81 - x4.toInt < (m : Int) → pmE pg X pg_tyl pg_cl (d + 6) 207 86 [.ref 147, .int x1, .int x2, .int x3, .int x4] [] (md wc f A) Q := by
  intro m
  induction m with
  | zero =>
    intro A x4 hI hF gx4 hpi0 hpi1 hm
    exfalso
    have l0 := zi_lo x4
    have u0 := zi_hi x4
    omega
  | succ m ih =>
    intro A x4 hI hF gx4 hpi0 hpi1 hm
    refine pe_iload (j := 4) (by decide +kernel) rfl ?_
    refine pe_bipushv (n := 81) (v := 81) (by decide +kernel) (by decide +kernel) ?_
    refine pz_icmp_ge (off := 31) (t := 121) (by decide +kernel) (by decide) rfl rfl kz_81 (fun h1 => ?_) (fun h1 => ?_)
    · skip
      exact k_121_0 A x4 hI (fun k n150 => (hF k n150)) (by omega) hpi0 hpi1
    · skip
      refine pe_aload_n (j := 0) (by decide +kernel) rfl ?_
      refine pe_get (j := 17) (ci := 12) (n := 10) (by decide +kernel) (by decide +kernel) (md_o hc) rfl ?_
      refine pe_iconstv (n := 3) (v := 3) (by decide +kernel) (by decide +kernel) ?_
      refine pe_iload (j := 4) (by decide +kernel) rfl ?_
      refine pz_add (by decide +kernel) kz_3 rfl (by omega) (by omega) (fun z2 hz2 => ?_)
      refine pe_iload (j := 4) (by decide +kernel) rfl ?_
      refine pe_bipushv (n := 10) (v := 10) (by decide +kernel) (by decide +kernel) ?_
      refine pz_rem (by decide +kernel) rfl kz_10 (by omega) (by omega) (fun z3 hz3 gz3 kz3 => ?_)
      refine pz_if_ne (off := 7) (t := 113) (by decide +kernel) (by decide) rfl rfl (fun h4 => ?_) (fun h4 => ?_)
      · skip
        refine pe_iload_n (j := 3) (by decide +kernel) rfl ?_
        refine mz_st150 (by decide +kernel) hc hI hz2 (by omega) (by omega) (fun A5 eA5 hIA5 => ?_)
        refine pz_iinc (j := 4) (n := 1) (by decide +kernel) rfl rfl (by decide +kernel) (by omega) (by omega) (fun z6 hz6 => ?_)
        show pmE pg X pg_tyl pg_cl (d + 6) 207 118 [.ref 147, .int x1, .int x2, .int x3, .int z6] [] (md wc f A5) _
        refine pe_goto (off := (-32)) (t := 86) (by decide +kernel) (by decide) rfl ?_
        exact ih A5 z6 hIA5 (fun k n150 => (upa_fr eA5 n150).trans ((hF k n150))) (by omega) (by rw [upa_at eA5]; exact TV_set (i := (3 + x4.toInt)) hpi0 (by omega) (by omega) (mlen_150 hI) (by unfold TVi; omega)) (by rw [upa_at eA5, fr_ne (i := (3 + x4.toInt)) (by omega) (by decide) (by omega)]; exact hpi1) (by omega)
      · skip
        refine pe_iconstv (n := 0) (v := 0) (by decide +kernel) (by decide +kernel) ?_
        refine pe_goto (off := 4) (t := 114) (by decide +kernel) (by decide) rfl ?_
        refine mz_st150 (by decide +kernel) hc hI hz2 (by omega) (by omega) (fun A7 eA7 hIA7 => ?_)
        refine pz_iinc (j := 4) (n := 1) (by decide +kernel) rfl rfl (by decide +kernel) (by omega) (by omega) (fun z8 hz8 => ?_)
        show pmE pg X pg_tyl pg_cl (d + 6) 207 118 [.ref 147, .int x1, .int x2, .int x3, .int z8] [] (md wc f A7) _
        refine pe_goto (off := (-32)) (t := 86) (by decide +kernel) (by decide) rfl ?_
        exact ih A7 z8 hIA7 (fun k n150 => (upa_fr eA7 n150).trans ((hF k n150))) (by omega) (by rw [upa_at eA7]; exact TV_set (i := (3 + x4.toInt)) hpi0 (by omega) (by omega) (mlen_150 hI) (by have hl9 := kz_0; unfold TVi; omega)) (by rw [upa_at eA7, fr_ne (i := (3 + x4.toInt)) (by omega) (by decide) (by omega)]; exact hpi1) (by omega)
set_option maxRecDepth 100000 in
set_option maxHeartbeats 8000000 in
theorem NM_207 {X : pm_X} {d : Nat} {wc : pm_W} {f : Nat → Int32} {A : Nat → List Int32} (hc : wc.length = 147) (hI : MI f A) (hpp0 : JJ f A) (hpp1 : TV (A 150) (f 9).toInt (fr (A 148) 3)) (hpp2 : fr (A 150) 1 ≤ 9000) : pmE pg X pg_tyl pg_cl (d + 6) 207 0 (pm_ent (pm_max pg 207) [.ref 147]) [] (md wc f A) (fun q => ∃ (f' : Nat → Int32) (A' : Nat → List Int32), q = (none, md wc f' A', 0, 0) ∧ MI f' A' ∧ (∀ k : Nat, k ≠ 3 → k ≠ 4 → k ≠ 5 → k ≠ 6 → k ≠ 7 → k ≠ 8 → k ≠ 9 → f' k = f k) ∧ (∀ k : Nat, k ≠ 148 → k ≠ 150 → A' k = A k) ∧ ((TX f f' A A' ∧ TS f f' ∧ TV (A' 150) (f' 9).toInt (fr (A' 148) 3) ∧ fr (A' 150) 1 ≤ fr (A 150) 1 + 1 ∧ True))) := by
  show pmE pg X pg_tyl pg_cl (d + 6) 207 0 [.ref 147, pm_dead, pm_dead, pm_dead, pm_dead] [] (md wc f A) _
  refine pe_aload_n (j := 0) (by decide +kernel) rfl ?_
  refine pe_get (j := 90) (ci := 12) (n := 4) (by decide +kernel) (by decide +kernel) (md_o hc) rfl ?_
  refine pe_istore_n (j := 1) (ls' := [.ref 147, .int (f 4), pm_dead, pm_dead, pm_dead]) (by decide +kernel) (Nat.le_of_ble_eq_true rfl) rfl ?_
  refine pe_aload_n (j := 0) (by decide +kernel) rfl ?_
  refine pe_iconstv (n := 1) (v := 1) (by decide +kernel) (by decide +kernel) ?_
  refine pe_bipushv (n := 7) (v := 7) (by decide +kernel) (by decide +kernel) ?_
  have htx1 : TX f f A A := TX_refl hpp0
  refine pz_callV (j := 140) (mj := 208) (by decide +kernel) (cll_V (args := [.int 7, .int 1]) (n := 2) (by decide +kernel) rfl rfl (md_o hc) (by decide +kernel) (Nat.le_of_ble_eq_true rfl) (Nat.le_of_ble_eq_true rfl)) (NM_208 hc hI (by decide +kernel) (by decide +kernel) htx1.2.2.2.2) (fun q2a q2b q2c q2d hqq2 => ?_)
  obtain ⟨f3, A4, rq2, eq2, hIq2, hGq2, hFq2, kq2⟩ := hqq2
  cases eq2
  refine ⟨rfl, rfl, ?_⟩
  obtain ⟨kfq2, kq2⟩ := kq2
  obtain ⟨hp5, hp6, kq2⟩ := kq2
  have htx7 := TX_trans htx1 hp5
  have htv8 := TV_tx hpp1 hp5 ((hFq2 150 (by decide)))
  show pmE pg X pg_tyl pg_cl (d + 6) 207 12 [.ref 147, .int (f 4), pm_dead, pm_dead, pm_dead] [.int rq2] (md wc f3 A4) _
  refine pe_istore_n (j := 2) (ls' := [.ref 147, .int (f 4), .int rq2, pm_dead, pm_dead]) (by decide +kernel) (Nat.le_of_ble_eq_true rfl) rfl ?_
  refine pe_iload_n (j := 2) (by decide +kernel) rfl ?_
  refine pe_iconstv (n := 1) (v := 1) (by decide +kernel) (by decide +kernel) ?_
  refine pz_icmp_ne (off := 16) (t := 31) (by decide +kernel) (by decide) rfl rfl kz_1 (fun h9 => ?_) (fun h9 => ?_)
  · skip
    refine pe_iload_n (j := 2) (by decide +kernel) rfl ?_
    refine pe_iconstv (n := 2) (v := 2) (by decide +kernel) (by decide +kernel) ?_
    refine pz_icmp_ne (off := 37) (t := 70) (by decide +kernel) (by decide) rfl rfl kz_2 (fun h10 => ?_) (fun h10 => ?_)
    · skip
      refine pe_iload_n (j := 2) (by decide +kernel) rfl ?_
      refine pe_iconstv (n := 3) (v := 3) (by decide +kernel) (by decide +kernel) ?_
      refine pz_icmp_ne (off := 49) (t := 121) (by decide +kernel) (by decide) rfl rfl kz_3 (fun h11 => ?_) (fun h11 => ?_)
      · skip
        refine pe_iload_n (j := 2) (by decide +kernel) rfl ?_
        refine pe_iconstv (n := 4) (v := 4) (by decide +kernel) (by decide +kernel) ?_
        refine pz_icmp_eq (off := 8) (t := 131) (by decide +kernel) (by decide) rfl rfl kz_4 (fun h12 => ?_) (fun h12 => ?_)
        · skip
          refine pe_aload_n (j := 0) (by decide +kernel) rfl ?_
          refine pe_iconstv (n := (-1)) (v := (-1)) (by decide +kernel) (by decide +kernel) ?_
          refine pz_callV (j := 137) (mj := 212) (by decide +kernel) (cll_V (args := [.int (-1)]) (n := 1) (by decide +kernel) rfl rfl (md_o hc) (by decide +kernel) (Nat.le_of_ble_eq_true rfl) (Nat.le_of_ble_eq_true rfl)) (NM_212 hc hIq2 htx7.2.2.2.2) (fun q13a q13b q13c q13d hqq13 => ?_)
          obtain ⟨f14, A15, rq13, eq13, hIq13, hGq13, hFq13, kq13⟩ := hqq13
          cases eq13
          refine ⟨rfl, rfl, ?_⟩
          obtain ⟨kfq13, kq13⟩ := kq13
          obtain ⟨hp16, hp17, kq13⟩ := kq13
          have htx18 := TX_trans htx7 hp16
          have hts19 := TS_w hp6 hp16.2.2.1
          have htv20 := TV_tx htv8 hp16 ((hFq13 150 (by decide)))
          show pmE pg X pg_tyl pg_cl (d + 6) 207 136 [.ref 147, .int (f 4), .int rq2, pm_dead, pm_dead] [.int rq13] (md wc f14 A15) _
          refine pe_istore_n (j := 3) (ls' := [.ref 147, .int (f 4), .int rq2, .int rq13, pm_dead]) (by decide +kernel) (Nat.le_of_ble_eq_true rfl) rfl ?_
          refine pe_iload_n (j := 2) (by decide +kernel) rfl ?_
          refine pe_iconstv (n := 4) (v := 4) (by decide +kernel) (by decide +kernel) ?_
          refine pz_icmp_ne (off := 13) (t := 152) (by decide +kernel) (by decide) rfl rfl kz_4 (fun h21 => by omega) (fun h21 => ?_)
          refine pe_aload_n (j := 0) (by decide +kernel) rfl ?_
          refine pe_iconstv (n := 0) (v := 0) (by decide +kernel) (by decide +kernel) ?_
          refine pe_bipushv (n := 99) (v := 99) (by decide +kernel) (by decide +kernel) ?_
          have hl22 := kz_0
          have hl23 := kz_99
          refine pz_callV (j := 130) (mj := 210) (by decide +kernel) (cll_V (args := [.int 99, .int 0]) (n := 2) (by decide +kernel) rfl rfl (md_o hc) (by decide +kernel) (Nat.le_of_ble_eq_true rfl) (Nat.le_of_ble_eq_true rfl)) (NM_210 hc hIq13 (by decide +kernel) (by decide +kernel) (by omega) htx18.2.2.2.2) (fun q24a q24b q24c q24d hqq24 => ?_)
          obtain ⟨f25, A26, rq24, eq24, hIq24, hGq24, hFq24, hX0q24, hX1q24, kq24⟩ := hqq24
          cases eq24
          refine ⟨rfl, rfl, ?_⟩
          obtain ⟨kfq24, kq24⟩ := kq24
          obtain ⟨hp27, hp28, kq24⟩ := kq24
          have htx29 := TX_trans htx18 hp27
          have hts30 := TS_w hts19 hp27.2.2.1
          have hge31 : rq13.toInt ≤ (f25 9).toInt := Int.le_trans hp17 hp27.2.2.2.1
          have htv32 := TV_tx htv20 hp27 ((hFq24 150 (by decide)))
          show pmE pg X pg_tyl pg_cl (d + 6) 207 149 [.ref 147, .int (f 4), .int rq2, .int rq13, pm_dead] [.int rq24] (md wc f25 A26) _
          refine pe_goto (off := 10) (t := 159) (by decide +kernel) (by decide) rfl ?_
          refine pe_istore (j := 4) (ls' := [.ref 147, .int (f 4), .int rq2, .int rq13, .int rq24]) (by decide +kernel) (Nat.le_of_ble_eq_true rfl) rfl ?_
          refine pe_aload_n (j := 0) (by decide +kernel) rfl ?_
          refine pe_get (j := 17) (ci := 12) (n := 10) (by decide +kernel) (by decide +kernel) (md_o hc) rfl ?_
          refine pe_iload_n (j := 2) (by decide +kernel) rfl ?_
          refine pe_iconstv (n := 4) (v := 4) (by decide +kernel) (by decide +kernel) ?_
          refine pz_icmp_ne (off := 8) (t := 175) (by decide +kernel) (by decide) rfl rfl kz_4 (fun h33 => by omega) (fun h33 => ?_)
          refine pe_bipushv (n := 84) (v := 84) (by decide +kernel) (by decide +kernel) ?_
          refine pe_goto (off := 5) (t := 177) (by decide +kernel) (by decide) rfl ?_
          refine pe_iload_n (j := 3) (by decide +kernel) rfl ?_
          refine pz_add (by decide +kernel) kz_84 rfl (by omega) (by omega) (fun z34 hz34 => ?_)
          refine pe_iload (j := 4) (by decide +kernel) rfl ?_
          refine mz_st150 (by decide +kernel) hc hIq24 hz34 (by omega) (by omega) (fun A35 eA35 hIA35 => ?_)
          refine pe_iload_n (j := 2) (by decide +kernel) rfl ?_
          refine pe_bipushv (n := 6) (v := 6) (by decide +kernel) (by decide +kernel) ?_
          refine pz_icmp_ne (off := 16) (t := 201) (by decide +kernel) (by decide) rfl rfl kz_6 (fun h36 => ?_) (fun h36 => by omega)
          refine pe_iload_n (j := 2) (by decide +kernel) rfl ?_
          refine pe_bipushv (n := 7) (v := 7) (by decide +kernel) (by decide +kernel) ?_
          refine pz_icmp_ne (off := 8) (t := 212) (by decide +kernel) (by decide) rfl rfl kz_7 (fun h37 => ?_) (fun h37 => by omega)
          refine pe_aload_n (j := 0) (by decide +kernel) rfl ?_
          have htv38 : TV (A35 150) (f25 9).toInt (fr (A35 148) 3) := by rw [upa_at eA35, upa_fr eA35 (by decide : (148 : Nat) ≠ 150)]; exact TV_set (i := (84 + rq13.toInt)) htv32 (by omega) (by omega) (mlen_150 hIq24) (by unfold TVi; omega)
          have htx39 := TX_fr (f2 := f25) (A2 := A35) htx29 (rfl) (rfl) (rfl) (by rw [show f25 9 = f25 9 from rfl]; exact Int.le_refl _) (upa_fr eA35 (by decide))
          have hts40 := TS_w hts30 (Int.le_of_eq (ms_eq (rfl) (rfl) (rfl)).symm)
          refine pz_callV (j := 147) (mj := 214) (by decide +kernel) (cll_V (args := []) (n := 0) (by decide +kernel) rfl rfl (md_o hc) (by decide +kernel) (Nat.le_of_ble_eq_true rfl) (Nat.le_of_ble_eq_true rfl)) (NM_214 hc hIA35 htx39.2.2.2.2) (fun q41a q41b q41c q41d hqq41 => ?_)
          obtain ⟨f42, A43, eq41, hIq41, hGq41, hFq41, kq41⟩ := hqq41
          cases eq41
          refine ⟨rfl, rfl, ?_⟩
          obtain ⟨hp44, kq41⟩ := kq41
          have htx45 := TX_trans htx39 hp44
          have hts46 := TS_w hts40 hp44.2.2.1
          have hge47 : rq13.toInt ≤ (f42 9).toInt := Int.le_trans hge31 hp44.2.2.2.1
          have htv48 := TV_tx htv38 hp44 ((hFq41 150 (by decide)))
          show pmE pg X pg_tyl pg_cl (d + 6) 207 216 [.ref 147, .int (f 4), .int rq2, .int rq13, .int rq24] [] (md wc f42 A43) _
          exact pe_vret (by decide +kernel) rfl ⟨f42, A43, rfl, hIq41, (fun k n3 n4 n5 n6 n7 n8 n9 => ((hGq41 k n3 n4 n5 n6 n7 n8)).trans (((hGq24 k n3 n4 n5 n6 n7 n8)).trans (((hGq13 k n3 n4 n5 n6 n7 n8 n9)).trans ((hGq2 k n3 n4 n5 n6 n7 n8))))), (fun k n148 n150 => ((hFq41 k n148)).trans ((upa_fr eA35 n150).trans (((hFq24 k n148)).trans (((hFq13 k n148)).trans ((hFq2 k n148)))))), ⟨htx45, hts46, htv48, (by rw [show A43 150 = A35 150 from (hFq41 150 (by decide)), show fr (A35 150) 1 = fr (A26 150) 1 by rw [upa_at eA35, fr_ne (i := (84 + rq13.toInt)) (by omega) (by decide) (by omega)], show A26 150 = A15 150 from (hFq24 150 (by decide)), show A15 150 = A4 150 from (hFq13 150 (by decide)), show A4 150 = A 150 from (hFq2 150 (by decide))]; omega), trivial⟩⟩
        · skip
          refine pe_iload_n (j := 2) (by decide +kernel) rfl ?_
          refine pe_iconstv (n := 5) (v := 5) (by decide +kernel) (by decide +kernel) ?_
          refine pz_icmp_ne (off := 54) (t := 182) (by decide +kernel) (by decide) rfl rfl kz_5 (fun h49 => ?_) (fun h49 => ?_)
          · skip
            refine pe_iload_n (j := 2) (by decide +kernel) rfl ?_
            refine pe_bipushv (n := 6) (v := 6) (by decide +kernel) (by decide +kernel) ?_
            refine pz_icmp_ne (off := 16) (t := 201) (by decide +kernel) (by decide) rfl rfl kz_6 (fun h50 => ?_) (fun h50 => ?_)
            · skip
              refine pe_iload_n (j := 2) (by decide +kernel) rfl ?_
              refine pe_bipushv (n := 7) (v := 7) (by decide +kernel) (by decide +kernel) ?_
              refine pz_icmp_ne (off := 8) (t := 212) (by decide +kernel) (by decide) rfl rfl kz_7 (fun h51 => ?_) (fun h51 => ?_)
              · skip
                refine pe_aload_n (j := 0) (by decide +kernel) rfl ?_
                refine pz_callV (j := 147) (mj := 214) (by decide +kernel) (cll_V (args := []) (n := 0) (by decide +kernel) rfl rfl (md_o hc) (by decide +kernel) (Nat.le_of_ble_eq_true rfl) (Nat.le_of_ble_eq_true rfl)) (NM_214 hc hIq2 htx7.2.2.2.2) (fun q52a q52b q52c q52d hqq52 => ?_)
                obtain ⟨f53, A54, eq52, hIq52, hGq52, hFq52, kq52⟩ := hqq52
                cases eq52
                refine ⟨rfl, rfl, ?_⟩
                obtain ⟨hp55, kq52⟩ := kq52
                have htx56 := TX_trans htx7 hp55
                have hts57 := TS_w hp6 hp55.2.2.1
                have htv58 := TV_tx htv8 hp55 ((hFq52 150 (by decide)))
                show pmE pg X pg_tyl pg_cl (d + 6) 207 216 [.ref 147, .int (f 4), .int rq2, pm_dead, pm_dead] [] (md wc f53 A54) _
                exact pe_vret (by decide +kernel) rfl ⟨f53, A54, rfl, hIq52, (fun k n3 n4 n5 n6 n7 n8 n9 => ((hGq52 k n3 n4 n5 n6 n7 n8)).trans ((hGq2 k n3 n4 n5 n6 n7 n8))), (fun k n148 n150 => ((hFq52 k n148)).trans ((hFq2 k n148))), ⟨htx56, hts57, htv58, (by rw [show A54 150 = A4 150 from (hFq52 150 (by decide)), show A4 150 = A 150 from (hFq2 150 (by decide))]; omega), trivial⟩⟩
              · skip
                refine pe_aload_n (j := 0) (by decide +kernel) rfl ?_
                refine pe_iload_n (j := 1) (by decide +kernel) rfl ?_
                refine pz_callV (j := 143) (mj := 213) (by decide +kernel) (cll_V (args := [.int (f 4)]) (n := 1) (by decide +kernel) rfl rfl (md_o hc) (by decide +kernel) (Nat.le_of_ble_eq_true rfl) (Nat.le_of_ble_eq_true rfl)) (NM_213 hc hIq2 htx7.2.2.2.2 htv8 (by rw [show A4 150 = A 150 from (hFq2 150 (by decide))]; exact hpp2)) (fun q59a q59b q59c q59d hqq59 => ?_)
                obtain ⟨f60, A61, eq59, hIq59, hGq59, hFq59, kq59⟩ := hqq59
                cases eq59
                refine ⟨rfl, rfl, ?_⟩
                obtain ⟨hp62, hp63, hp64, kq59⟩ := kq59
                have htx65 := TX_trans htx7 hp62
                have hts66 := TS_w hp6 hp62.2.2.1
                show pmE pg X pg_tyl pg_cl (d + 6) 207 212 [.ref 147, .int (f 4), .int rq2, pm_dead, pm_dead] [] (md wc f60 A61) _
                refine pe_aload_n (j := 0) (by decide +kernel) rfl ?_
                refine pz_callV (j := 147) (mj := 214) (by decide +kernel) (cll_V (args := []) (n := 0) (by decide +kernel) rfl rfl (md_o hc) (by decide +kernel) (Nat.le_of_ble_eq_true rfl) (Nat.le_of_ble_eq_true rfl)) (NM_214 hc hIq59 htx65.2.2.2.2) (fun q67a q67b q67c q67d hqq67 => ?_)
                obtain ⟨f68, A69, eq67, hIq67, hGq67, hFq67, kq67⟩ := hqq67
                cases eq67
                refine ⟨rfl, rfl, ?_⟩
                obtain ⟨hp70, kq67⟩ := kq67
                have htx71 := TX_trans htx65 hp70
                have hts72 := TS_w hts66 hp70.2.2.1
                have htv73 := TV_tx hp63 hp70 ((hFq67 150 (by decide)))
                show pmE pg X pg_tyl pg_cl (d + 6) 207 216 [.ref 147, .int (f 4), .int rq2, pm_dead, pm_dead] [] (md wc f68 A69) _
                exact pe_vret (by decide +kernel) rfl ⟨f68, A69, rfl, hIq67, (fun k n3 n4 n5 n6 n7 n8 n9 => ((hGq67 k n3 n4 n5 n6 n7 n8)).trans (((hGq59 k n3 n4 n5 n6 n7 n8 n9)).trans ((hGq2 k n3 n4 n5 n6 n7 n8)))), (fun k n148 n150 => ((hFq67 k n148)).trans (((hFq59 k n148 n150)).trans ((hFq2 k n148)))), ⟨htx71, hts72, htv73, (by have h := hp64; rw [show A4 150 = A 150 from (hFq2 150 (by decide))] at h; rw [show A69 150 = A61 150 from (hFq67 150 (by decide))]; omega), trivial⟩⟩
            · skip
              refine pe_aload_n (j := 0) (by decide +kernel) rfl ?_
              refine pe_get (j := 17) (ci := 12) (n := 10) (by decide +kernel) (by decide +kernel) (md_o hc) rfl ?_
              refine pe_iconstv (n := 2) (v := 2) (by decide +kernel) (by decide +kernel) ?_
              refine pe_aload_n (j := 0) (by decide +kernel) rfl ?_
              refine pe_iconstv (n := 0) (v := 0) (by decide +kernel) (by decide +kernel) ?_
              refine pe_bipushv (n := 9) (v := 9) (by decide +kernel) (by decide +kernel) ?_
              have hl74 := kz_0
              have hl75 := kz_9
              refine pz_callV (j := 130) (mj := 210) (by decide +kernel) (cll_V (args := [.int 9, .int 0]) (n := 2) (by decide +kernel) rfl rfl (md_o hc) (by decide +kernel) (Nat.le_of_ble_eq_true rfl) (Nat.le_of_ble_eq_true rfl)) (NM_210 hc hIq2 (by decide +kernel) (by decide +kernel) (by omega) htx7.2.2.2.2) (fun q76a q76b q76c q76d hqq76 => ?_)
              obtain ⟨f77, A78, rq76, eq76, hIq76, hGq76, hFq76, hX0q76, hX1q76, kq76⟩ := hqq76
              cases eq76
              refine ⟨rfl, rfl, ?_⟩
              obtain ⟨kfq76, kq76⟩ := kq76
              obtain ⟨hp79, hp80, kq76⟩ := kq76
              have htx81 := TX_trans htx7 hp79
              have hts82 := TS_w hp6 hp79.2.2.1
              have htv83 := TV_tx htv8 hp79 ((hFq76 150 (by decide)))
              show pmE pg X pg_tyl pg_cl (d + 6) 207 200 [.ref 147, .int (f 4), .int rq2, pm_dead, pm_dead] [.int rq76, .int 2, .ref 150] (md wc f77 A78) _
              refine mz_st150 (by decide +kernel) hc hIq76 kz_2 (by omega) (by omega) (fun A84 eA84 hIA84 => ?_)
              refine pe_iload_n (j := 2) (by decide +kernel) rfl ?_
              refine pe_bipushv (n := 7) (v := 7) (by decide +kernel) (by decide +kernel) ?_
              refine pz_icmp_ne (off := 8) (t := 212) (by decide +kernel) (by decide) rfl rfl kz_7 (fun h85 => ?_) (fun h85 => by omega)
              refine pe_aload_n (j := 0) (by decide +kernel) rfl ?_
              have htv86 : TV (A84 150) (f77 9).toInt (fr (A84 148) 3) := by rw [upa_at eA84, upa_fr eA84 (by decide : (148 : Nat) ≠ 150)]; exact TV_set (i := 2) htv83 (by omega) (by omega) (mlen_150 hIq76) (by have hl87 := kz_2; unfold TVi; omega)
              have htx88 := TX_fr (f2 := f77) (A2 := A84) htx81 (rfl) (rfl) (rfl) (by rw [show f77 9 = f77 9 from rfl]; exact Int.le_refl _) (upa_fr eA84 (by decide))
              have hts89 := TS_w hts82 (Int.le_of_eq (ms_eq (rfl) (rfl) (rfl)).symm)
              refine pz_callV (j := 147) (mj := 214) (by decide +kernel) (cll_V (args := []) (n := 0) (by decide +kernel) rfl rfl (md_o hc) (by decide +kernel) (Nat.le_of_ble_eq_true rfl) (Nat.le_of_ble_eq_true rfl)) (NM_214 hc hIA84 htx88.2.2.2.2) (fun q90a q90b q90c q90d hqq90 => ?_)
              obtain ⟨f91, A92, eq90, hIq90, hGq90, hFq90, kq90⟩ := hqq90
              cases eq90
              refine ⟨rfl, rfl, ?_⟩
              obtain ⟨hp93, kq90⟩ := kq90
              have htx94 := TX_trans htx88 hp93
              have hts95 := TS_w hts89 hp93.2.2.1
              have htv96 := TV_tx htv86 hp93 ((hFq90 150 (by decide)))
              show pmE pg X pg_tyl pg_cl (d + 6) 207 216 [.ref 147, .int (f 4), .int rq2, pm_dead, pm_dead] [] (md wc f91 A92) _
              exact pe_vret (by decide +kernel) rfl ⟨f91, A92, rfl, hIq90, (fun k n3 n4 n5 n6 n7 n8 n9 => ((hGq90 k n3 n4 n5 n6 n7 n8)).trans (((hGq76 k n3 n4 n5 n6 n7 n8)).trans ((hGq2 k n3 n4 n5 n6 n7 n8)))), (fun k n148 n150 => ((hFq90 k n148)).trans ((upa_fr eA84 n150).trans (((hFq76 k n148)).trans ((hFq2 k n148))))), ⟨htx94, hts95, htv96, (by rw [show A92 150 = A84 150 from (hFq90 150 (by decide)), show fr (A84 150) 1 = fr (A78 150) 1 by rw [upa_at eA84, fr_ne (i := 2) (by omega) (by decide) (by omega)], show A78 150 = A4 150 from (hFq76 150 (by decide)), show A4 150 = A 150 from (hFq2 150 (by decide))]; omega), trivial⟩⟩
          · skip
            refine pe_aload_n (j := 0) (by decide +kernel) rfl ?_
            refine pe_iconstv (n := (-1)) (v := (-1)) (by decide +kernel) (by decide +kernel) ?_
            refine pz_callV (j := 137) (mj := 212) (by decide +kernel) (cll_V (args := [.int (-1)]) (n := 1) (by decide +kernel) rfl rfl (md_o hc) (by decide +kernel) (Nat.le_of_ble_eq_true rfl) (Nat.le_of_ble_eq_true rfl)) (NM_212 hc hIq2 htx7.2.2.2.2) (fun q97a q97b q97c q97d hqq97 => ?_)
            obtain ⟨f98, A99, rq97, eq97, hIq97, hGq97, hFq97, kq97⟩ := hqq97
            cases eq97
            refine ⟨rfl, rfl, ?_⟩
            obtain ⟨kfq97, kq97⟩ := kq97
            obtain ⟨hp100, hp101, kq97⟩ := kq97
            have htx102 := TX_trans htx7 hp100
            have hts103 := TS_w hp6 hp100.2.2.1
            have htv104 := TV_tx htv8 hp100 ((hFq97 150 (by decide)))
            show pmE pg X pg_tyl pg_cl (d + 6) 207 136 [.ref 147, .int (f 4), .int rq2, pm_dead, pm_dead] [.int rq97] (md wc f98 A99) _
            refine pe_istore_n (j := 3) (ls' := [.ref 147, .int (f 4), .int rq2, .int rq97, pm_dead]) (by decide +kernel) (Nat.le_of_ble_eq_true rfl) rfl ?_
            refine pe_iload_n (j := 2) (by decide +kernel) rfl ?_
            refine pe_iconstv (n := 4) (v := 4) (by decide +kernel) (by decide +kernel) ?_
            refine pz_icmp_ne (off := 13) (t := 152) (by decide +kernel) (by decide) rfl rfl kz_4 (fun h105 => ?_) (fun h105 => by omega)
            refine pe_aload_n (j := 0) (by decide +kernel) rfl ?_
            refine pe_iconstv (n := 0) (v := 0) (by decide +kernel) (by decide +kernel) ?_
            refine pe_bipushv (n := 100) (v := 100) (by decide +kernel) (by decide +kernel) ?_
            have hl106 := kz_0
            have hl107 := kz_100
            refine pz_callV (j := 130) (mj := 210) (by decide +kernel) (cll_V (args := [.int 100, .int 0]) (n := 2) (by decide +kernel) rfl rfl (md_o hc) (by decide +kernel) (Nat.le_of_ble_eq_true rfl) (Nat.le_of_ble_eq_true rfl)) (NM_210 hc hIq97 (by decide +kernel) (by decide +kernel) (by omega) htx102.2.2.2.2) (fun q108a q108b q108c q108d hqq108 => ?_)
            obtain ⟨f109, A110, rq108, eq108, hIq108, hGq108, hFq108, hX0q108, hX1q108, kq108⟩ := hqq108
            cases eq108
            refine ⟨rfl, rfl, ?_⟩
            obtain ⟨kfq108, kq108⟩ := kq108
            obtain ⟨hp111, hp112, kq108⟩ := kq108
            have htx113 := TX_trans htx102 hp111
            have hts114 := TS_w hts103 hp111.2.2.1
            have hge115 : rq97.toInt ≤ (f109 9).toInt := Int.le_trans hp101 hp111.2.2.2.1
            have htv116 := TV_tx htv104 hp111 ((hFq108 150 (by decide)))
            show pmE pg X pg_tyl pg_cl (d + 6) 207 159 [.ref 147, .int (f 4), .int rq2, .int rq97, pm_dead] [.int rq108] (md wc f109 A110) _
            refine pe_istore (j := 4) (ls' := [.ref 147, .int (f 4), .int rq2, .int rq97, .int rq108]) (by decide +kernel) (Nat.le_of_ble_eq_true rfl) rfl ?_
            refine pe_aload_n (j := 0) (by decide +kernel) rfl ?_
            refine pe_get (j := 17) (ci := 12) (n := 10) (by decide +kernel) (by decide +kernel) (md_o hc) rfl ?_
            refine pe_iload_n (j := 2) (by decide +kernel) rfl ?_
            refine pe_iconstv (n := 4) (v := 4) (by decide +kernel) (by decide +kernel) ?_
            refine pz_icmp_ne (off := 8) (t := 175) (by decide +kernel) (by decide) rfl rfl kz_4 (fun h117 => ?_) (fun h117 => by omega)
            refine pe_bipushv (n := 93) (v := 93) (by decide +kernel) (by decide +kernel) ?_
            refine pe_iload_n (j := 3) (by decide +kernel) rfl ?_
            refine pz_add (by decide +kernel) kz_93 rfl (by omega) (by omega) (fun z118 hz118 => ?_)
            refine pe_iload (j := 4) (by decide +kernel) rfl ?_
            refine mz_st150 (by decide +kernel) hc hIq108 hz118 (by omega) (by omega) (fun A119 eA119 hIA119 => ?_)
            refine pe_iload_n (j := 2) (by decide +kernel) rfl ?_
            refine pe_bipushv (n := 6) (v := 6) (by decide +kernel) (by decide +kernel) ?_
            refine pz_icmp_ne (off := 16) (t := 201) (by decide +kernel) (by decide) rfl rfl kz_6 (fun h120 => ?_) (fun h120 => by omega)
            refine pe_iload_n (j := 2) (by decide +kernel) rfl ?_
            refine pe_bipushv (n := 7) (v := 7) (by decide +kernel) (by decide +kernel) ?_
            refine pz_icmp_ne (off := 8) (t := 212) (by decide +kernel) (by decide) rfl rfl kz_7 (fun h121 => ?_) (fun h121 => by omega)
            refine pe_aload_n (j := 0) (by decide +kernel) rfl ?_
            have htv122 : TV (A119 150) (f109 9).toInt (fr (A119 148) 3) := by rw [upa_at eA119, upa_fr eA119 (by decide : (148 : Nat) ≠ 150)]; exact TV_set (i := (93 + rq97.toInt)) htv116 (by omega) (by omega) (mlen_150 hIq108) (by unfold TVi; omega)
            have htx123 := TX_fr (f2 := f109) (A2 := A119) htx113 (rfl) (rfl) (rfl) (by rw [show f109 9 = f109 9 from rfl]; exact Int.le_refl _) (upa_fr eA119 (by decide))
            have hts124 := TS_w hts114 (Int.le_of_eq (ms_eq (rfl) (rfl) (rfl)).symm)
            refine pz_callV (j := 147) (mj := 214) (by decide +kernel) (cll_V (args := []) (n := 0) (by decide +kernel) rfl rfl (md_o hc) (by decide +kernel) (Nat.le_of_ble_eq_true rfl) (Nat.le_of_ble_eq_true rfl)) (NM_214 hc hIA119 htx123.2.2.2.2) (fun q125a q125b q125c q125d hqq125 => ?_)
            obtain ⟨f126, A127, eq125, hIq125, hGq125, hFq125, kq125⟩ := hqq125
            cases eq125
            refine ⟨rfl, rfl, ?_⟩
            obtain ⟨hp128, kq125⟩ := kq125
            have htx129 := TX_trans htx123 hp128
            have hts130 := TS_w hts124 hp128.2.2.1
            have hge131 : rq97.toInt ≤ (f126 9).toInt := Int.le_trans hge115 hp128.2.2.2.1
            have htv132 := TV_tx htv122 hp128 ((hFq125 150 (by decide)))
            show pmE pg X pg_tyl pg_cl (d + 6) 207 216 [.ref 147, .int (f 4), .int rq2, .int rq97, .int rq108] [] (md wc f126 A127) _
            exact pe_vret (by decide +kernel) rfl ⟨f126, A127, rfl, hIq125, (fun k n3 n4 n5 n6 n7 n8 n9 => ((hGq125 k n3 n4 n5 n6 n7 n8)).trans (((hGq108 k n3 n4 n5 n6 n7 n8)).trans (((hGq97 k n3 n4 n5 n6 n7 n8 n9)).trans ((hGq2 k n3 n4 n5 n6 n7 n8))))), (fun k n148 n150 => ((hFq125 k n148)).trans ((upa_fr eA119 n150).trans (((hFq108 k n148)).trans (((hFq97 k n148)).trans ((hFq2 k n148)))))), ⟨htx129, hts130, htv132, (by rw [show A127 150 = A119 150 from (hFq125 150 (by decide)), show fr (A119 150) 1 = fr (A110 150) 1 by rw [upa_at eA119, fr_ne (i := (93 + rq97.toInt)) (by omega) (by decide) (by omega)], show A110 150 = A99 150 from (hFq108 150 (by decide)), show A99 150 = A4 150 from (hFq97 150 (by decide)), show A4 150 = A 150 from (hFq2 150 (by decide))]; omega), trivial⟩⟩
      · skip
        refine pe_aload_n (j := 0) (by decide +kernel) rfl ?_
        refine pe_iconstv (n := 0) (v := 0) (by decide +kernel) (by decide +kernel) ?_
        refine pe_bipushv (n := 99) (v := 99) (by decide +kernel) (by decide +kernel) ?_
        have hl133 := kz_0
        have hl134 := kz_99
        refine pz_callV (j := 130) (mj := 210) (by decide +kernel) (cll_V (args := [.int 99, .int 0]) (n := 2) (by decide +kernel) rfl rfl (md_o hc) (by decide +kernel) (Nat.le_of_ble_eq_true rfl) (Nat.le_of_ble_eq_true rfl)) (NM_210 hc hIq2 (by decide +kernel) (by decide +kernel) (by omega) htx7.2.2.2.2) (fun q135a q135b q135c q135d hqq135 => ?_)
        obtain ⟨f136, A137, rq135, eq135, hIq135, hGq135, hFq135, hX0q135, hX1q135, kq135⟩ := hqq135
        cases eq135
        refine ⟨rfl, rfl, ?_⟩
        obtain ⟨kfq135, kq135⟩ := kq135
        obtain ⟨hp138, hp139, kq135⟩ := kq135
        have htx140 := TX_trans htx7 hp138
        have hts141 := TS_w hp6 hp138.2.2.1
        have htv142 := TV_tx htv8 hp138 ((hFq135 150 (by decide)))
        show pmE pg X pg_tyl pg_cl (d + 6) 207 82 [.ref 147, .int (f 4), .int rq2, pm_dead, pm_dead] [.int rq135] (md wc f136 A137) _
        refine pe_istore_n (j := 3) (ls' := [.ref 147, .int (f 4), .int rq2, .int rq135, pm_dead]) (by decide +kernel) (Nat.le_of_ble_eq_true rfl) rfl ?_
        refine pe_iconstv (n := 0) (v := 0) (by decide +kernel) (by decide +kernel) ?_
        refine pe_istore (j := 4) (ls' := [.ref 147, .int (f 4), .int rq2, .int rq135, .int 0]) (by decide +kernel) (Nat.le_of_ble_eq_true rfl) rfl ?_
        refine NL_207_86 hc (by omega) (by omega) (fun A143 y144 hIy145 hFA143 gy144 hp146 hp147 => ?_) 82 A137 0 hIq135 (fun k _ => rfl) (by decide +kernel) htv142 (Int.le_refl _) (by decide +kernel)
        have htv148 : TV (A143 150) (f136 9).toInt (fr (A143 148) 3) := by rw [show A143 148 = A137 148 from (hFA143 148 (by decide))]; exact hp146
        refine pe_iload_n (j := 2) (by decide +kernel) rfl ?_
        refine pe_iconstv (n := 4) (v := 4) (by decide +kernel) (by decide +kernel) ?_
        refine pz_icmp_eq (off := 8) (t := 131) (by decide +kernel) (by decide) rfl rfl kz_4 (fun h149 => by omega) (fun h149 => ?_)
        refine pe_iload_n (j := 2) (by decide +kernel) rfl ?_
        refine pe_iconstv (n := 5) (v := 5) (by decide +kernel) (by decide +kernel) ?_
        refine pz_icmp_ne (off := 54) (t := 182) (by decide +kernel) (by decide) rfl rfl kz_5 (fun h150 => ?_) (fun h150 => by omega)
        refine pe_iload_n (j := 2) (by decide +kernel) rfl ?_
        refine pe_bipushv (n := 6) (v := 6) (by decide +kernel) (by decide +kernel) ?_
        refine pz_icmp_ne (off := 16) (t := 201) (by decide +kernel) (by decide) rfl rfl kz_6 (fun h151 => ?_) (fun h151 => by omega)
        refine pe_iload_n (j := 2) (by decide +kernel) rfl ?_
        refine pe_bipushv (n := 7) (v := 7) (by decide +kernel) (by decide +kernel) ?_
        refine pz_icmp_ne (off := 8) (t := 212) (by decide +kernel) (by decide) rfl rfl kz_7 (fun h152 => ?_) (fun h152 => by omega)
        refine pe_aload_n (j := 0) (by decide +kernel) rfl ?_
        have htx153 := TX_fr (f2 := f136) (A2 := A143) htx140 (rfl) (rfl) (rfl) (by rw [show f136 9 = f136 9 from rfl]; exact Int.le_refl _) ((hFA143 148 (by decide)))
        have hts154 := TS_w hts141 (Int.le_of_eq (ms_eq (rfl) (rfl) (rfl)).symm)
        refine pz_callV (j := 147) (mj := 214) (by decide +kernel) (cll_V (args := []) (n := 0) (by decide +kernel) rfl rfl (md_o hc) (by decide +kernel) (Nat.le_of_ble_eq_true rfl) (Nat.le_of_ble_eq_true rfl)) (NM_214 hc hIy145 htx153.2.2.2.2) (fun q155a q155b q155c q155d hqq155 => ?_)
        obtain ⟨f156, A157, eq155, hIq155, hGq155, hFq155, kq155⟩ := hqq155
        cases eq155
        refine ⟨rfl, rfl, ?_⟩
        obtain ⟨hp158, kq155⟩ := kq155
        have htx159 := TX_trans htx153 hp158
        have hts160 := TS_w hts154 hp158.2.2.1
        have htv161 := TV_tx htv148 hp158 ((hFq155 150 (by decide)))
        show pmE pg X pg_tyl pg_cl (d + 6) 207 216 [.ref 147, .int (f 4), .int rq2, .int rq135, .int y144] [] (md wc f156 A157) _
        exact pe_vret (by decide +kernel) rfl ⟨f156, A157, rfl, hIq155, (fun k n3 n4 n5 n6 n7 n8 n9 => ((hGq155 k n3 n4 n5 n6 n7 n8)).trans (((hGq135 k n3 n4 n5 n6 n7 n8)).trans ((hGq2 k n3 n4 n5 n6 n7 n8)))), (fun k n148 n150 => ((hFq155 k n148)).trans (((hFA143 k n150)).trans (((hFq135 k n148)).trans ((hFq2 k n148))))), ⟨htx159, hts160, htv161, (by have h := hp147; rw [show A137 150 = A 150 from ((hFq135 150 (by decide))).trans ((hFq2 150 (by decide)))] at h; rw [show A157 150 = A143 150 from (hFq155 150 (by decide))]; omega), trivial⟩⟩
    · skip
      refine pe_aload_n (j := 0) (by decide +kernel) rfl ?_
      refine pe_iconstv (n := (-1)) (v := (-1)) (by decide +kernel) (by decide +kernel) ?_
      refine pz_callV (j := 137) (mj := 212) (by decide +kernel) (cll_V (args := [.int (-1)]) (n := 1) (by decide +kernel) rfl rfl (md_o hc) (by decide +kernel) (Nat.le_of_ble_eq_true rfl) (Nat.le_of_ble_eq_true rfl)) (NM_212 hc hIq2 htx7.2.2.2.2) (fun q162a q162b q162c q162d hqq162 => ?_)
      obtain ⟨f163, A164, rq162, eq162, hIq162, hGq162, hFq162, kq162⟩ := hqq162
      cases eq162
      refine ⟨rfl, rfl, ?_⟩
      obtain ⟨kfq162, kq162⟩ := kq162
      obtain ⟨hp165, hp166, kq162⟩ := kq162
      have htx167 := TX_trans htx7 hp165
      have hts168 := TS_w hp6 hp165.2.2.1
      have htv169 := TV_tx htv8 hp165 ((hFq162 150 (by decide)))
      show pmE pg X pg_tyl pg_cl (d + 6) 207 41 [.ref 147, .int (f 4), .int rq2, pm_dead, pm_dead] [.int rq162] (md wc f163 A164) _
      refine pe_istore_n (j := 3) (ls' := [.ref 147, .int (f 4), .int rq2, .int rq162, pm_dead]) (by decide +kernel) (Nat.le_of_ble_eq_true rfl) rfl ?_
      refine pe_aload_n (j := 0) (by decide +kernel) rfl ?_
      refine pe_iload_n (j := 3) (by decide +kernel) rfl ?_
      refine pz_callV (j := 137) (mj := 212) (by decide +kernel) (cll_V (args := [.int rq162]) (n := 1) (by decide +kernel) rfl rfl (md_o hc) (by decide +kernel) (Nat.le_of_ble_eq_true rfl) (Nat.le_of_ble_eq_true rfl)) (NM_212 hc hIq162 htx167.2.2.2.2) (fun q170a q170b q170c q170d hqq170 => ?_)
      obtain ⟨f171, A172, rq170, eq170, hIq170, hGq170, hFq170, kq170⟩ := hqq170
      cases eq170
      refine ⟨rfl, rfl, ?_⟩
      obtain ⟨kfq170, kq170⟩ := kq170
      obtain ⟨hp173, hp174, kq170⟩ := kq170
      have htx175 := TX_trans htx167 hp173
      have hts176 := TS_w hts168 hp173.2.2.1
      have hge177 : rq162.toInt ≤ (f171 9).toInt := Int.le_trans hp166 hp173.2.2.2.1
      have htv178 := TV_tx htv169 hp173 ((hFq170 150 (by decide)))
      show pmE pg X pg_tyl pg_cl (d + 6) 207 47 [.ref 147, .int (f 4), .int rq2, .int rq162, pm_dead] [.int rq170] (md wc f171 A172) _
      refine pe_istore (j := 4) (ls' := [.ref 147, .int (f 4), .int rq2, .int rq162, .int rq170]) (by decide +kernel) (Nat.le_of_ble_eq_true rfl) rfl ?_
      refine pe_aload_n (j := 0) (by decide +kernel) rfl ?_
      refine pe_get (j := 17) (ci := 12) (n := 10) (by decide +kernel) (by decide +kernel) (md_o hc) rfl ?_
      refine pe_iconstv (n := 3) (v := 3) (by decide +kernel) (by decide +kernel) ?_
      refine pe_bipushv (n := 9) (v := 9) (by decide +kernel) (by decide +kernel) ?_
      refine pe_iload_n (j := 3) (by decide +kernel) rfl ?_
      refine pz_mul (by decide +kernel) kz_9 rfl (by omega) (by omega) (fun z179 hz179 => ?_)
      refine pz_add (by decide +kernel) kz_3 hz179 (by omega) (by omega) (fun z180 hz180 => ?_)
      clear hz179
      refine pe_iload (j := 4) (by decide +kernel) rfl ?_
      refine pz_add (by decide +kernel) hz180 rfl (by omega) (by omega) (fun z181 hz181 => ?_)
      clear hz180
      refine pe_aload_n (j := 0) (by decide +kernel) rfl ?_
      refine pe_iconstv (n := 0) (v := 0) (by decide +kernel) (by decide +kernel) ?_
      refine pe_bipushv (n := 99) (v := 99) (by decide +kernel) (by decide +kernel) ?_
      have hl182 := kz_0
      have hl183 := kz_99
      refine pz_callV (j := 130) (mj := 210) (by decide +kernel) (cll_V (args := [.int 99, .int 0]) (n := 2) (by decide +kernel) rfl rfl (md_o hc) (by decide +kernel) (Nat.le_of_ble_eq_true rfl) (Nat.le_of_ble_eq_true rfl)) (NM_210 hc hIq170 (by decide +kernel) (by decide +kernel) (by omega) htx175.2.2.2.2) (fun q184a q184b q184c q184d hqq184 => ?_)
      obtain ⟨f185, A186, rq184, eq184, hIq184, hGq184, hFq184, hX0q184, hX1q184, kq184⟩ := hqq184
      cases eq184
      refine ⟨rfl, rfl, ?_⟩
      obtain ⟨kfq184, kq184⟩ := kq184
      obtain ⟨hp187, hp188, kq184⟩ := kq184
      have htx189 := TX_trans htx175 hp187
      have hts190 := TS_w hts176 hp187.2.2.1
      have hge191 : rq162.toInt ≤ (f185 9).toInt := Int.le_trans hge177 hp187.2.2.2.1
      have hge192 : rq170.toInt ≤ (f185 9).toInt := Int.le_trans hp174 hp187.2.2.2.1
      have htv193 := TV_tx htv178 hp187 ((hFq184 150 (by decide)))
      show pmE pg X pg_tyl pg_cl (d + 6) 207 69 [.ref 147, .int (f 4), .int rq2, .int rq162, .int rq170] [.int rq184, .int z181, .ref 150] (md wc f185 A186) _
      refine mz_st150 (by decide +kernel) hc hIq184 hz181 (by omega) (by omega) (fun A194 eA194 hIA194 => ?_)
      refine pe_iload_n (j := 2) (by decide +kernel) rfl ?_
      refine pe_iconstv (n := 3) (v := 3) (by decide +kernel) (by decide +kernel) ?_
      refine pz_icmp_ne (off := 49) (t := 121) (by decide +kernel) (by decide) rfl rfl kz_3 (fun h195 => ?_) (fun h195 => by omega)
      refine pe_iload_n (j := 2) (by decide +kernel) rfl ?_
      refine pe_iconstv (n := 4) (v := 4) (by decide +kernel) (by decide +kernel) ?_
      refine pz_icmp_eq (off := 8) (t := 131) (by decide +kernel) (by decide) rfl rfl kz_4 (fun h196 => by omega) (fun h196 => ?_)
      refine pe_iload_n (j := 2) (by decide +kernel) rfl ?_
      refine pe_iconstv (n := 5) (v := 5) (by decide +kernel) (by decide +kernel) ?_
      refine pz_icmp_ne (off := 54) (t := 182) (by decide +kernel) (by decide) rfl rfl kz_5 (fun h197 => ?_) (fun h197 => by omega)
      refine pe_iload_n (j := 2) (by decide +kernel) rfl ?_
      refine pe_bipushv (n := 6) (v := 6) (by decide +kernel) (by decide +kernel) ?_
      refine pz_icmp_ne (off := 16) (t := 201) (by decide +kernel) (by decide) rfl rfl kz_6 (fun h198 => ?_) (fun h198 => by omega)
      refine pe_iload_n (j := 2) (by decide +kernel) rfl ?_
      refine pe_bipushv (n := 7) (v := 7) (by decide +kernel) (by decide +kernel) ?_
      refine pz_icmp_ne (off := 8) (t := 212) (by decide +kernel) (by decide) rfl rfl kz_7 (fun h199 => ?_) (fun h199 => by omega)
      refine pe_aload_n (j := 0) (by decide +kernel) rfl ?_
      have htv200 : TV (A194 150) (f185 9).toInt (fr (A194 148) 3) := by rw [upa_at eA194, upa_fr eA194 (by decide : (148 : Nat) ≠ 150)]; exact TV_set (i := ((3 + (9 * rq162.toInt)) + rq170.toInt)) htv193 (by omega) (by omega) (mlen_150 hIq184) (by unfold TVi; omega)
      have htx201 := TX_fr (f2 := f185) (A2 := A194) htx189 (rfl) (rfl) (rfl) (by rw [show f185 9 = f185 9 from rfl]; exact Int.le_refl _) (upa_fr eA194 (by decide))
      have hts202 := TS_w hts190 (Int.le_of_eq (ms_eq (rfl) (rfl) (rfl)).symm)
      refine pz_callV (j := 147) (mj := 214) (by decide +kernel) (cll_V (args := []) (n := 0) (by decide +kernel) rfl rfl (md_o hc) (by decide +kernel) (Nat.le_of_ble_eq_true rfl) (Nat.le_of_ble_eq_true rfl)) (NM_214 hc hIA194 htx201.2.2.2.2) (fun q203a q203b q203c q203d hqq203 => ?_)
      obtain ⟨f204, A205, eq203, hIq203, hGq203, hFq203, kq203⟩ := hqq203
      cases eq203
      refine ⟨rfl, rfl, ?_⟩
      obtain ⟨hp206, kq203⟩ := kq203
      have htx207 := TX_trans htx201 hp206
      have hts208 := TS_w hts202 hp206.2.2.1
      have hge209 : rq162.toInt ≤ (f204 9).toInt := Int.le_trans hge191 hp206.2.2.2.1
      have hge210 : rq170.toInt ≤ (f204 9).toInt := Int.le_trans hge192 hp206.2.2.2.1
      have htv211 := TV_tx htv200 hp206 ((hFq203 150 (by decide)))
      show pmE pg X pg_tyl pg_cl (d + 6) 207 216 [.ref 147, .int (f 4), .int rq2, .int rq162, .int rq170] [] (md wc f204 A205) _
      exact pe_vret (by decide +kernel) rfl ⟨f204, A205, rfl, hIq203, (fun k n3 n4 n5 n6 n7 n8 n9 => ((hGq203 k n3 n4 n5 n6 n7 n8)).trans (((hGq184 k n3 n4 n5 n6 n7 n8)).trans (((hGq170 k n3 n4 n5 n6 n7 n8 n9)).trans (((hGq162 k n3 n4 n5 n6 n7 n8 n9)).trans ((hGq2 k n3 n4 n5 n6 n7 n8)))))), (fun k n148 n150 => ((hFq203 k n148)).trans ((upa_fr eA194 n150).trans (((hFq184 k n148)).trans (((hFq170 k n148)).trans (((hFq162 k n148)).trans ((hFq2 k n148))))))), ⟨htx207, hts208, htv211, (by rw [show A205 150 = A194 150 from (hFq203 150 (by decide)), show fr (A194 150) 1 = fr (A186 150) 1 by rw [upa_at eA194, fr_ne (i := ((3 + (9 * rq162.toInt)) + rq170.toInt)) (by omega) (by decide) (by omega)], show A186 150 = A172 150 from (hFq184 150 (by decide)), show A172 150 = A164 150 from (hFq170 150 (by decide)), show A164 150 = A4 150 from (hFq162 150 (by decide)), show A4 150 = A 150 from (hFq2 150 (by decide))]; omega), trivial⟩⟩
  · skip
    refine pe_aload_n (j := 0) (by decide +kernel) rfl ?_
    refine pe_get (j := 17) (ci := 12) (n := 10) (by decide +kernel) (by decide +kernel) (md_o hc) rfl ?_
    refine pe_iconstv (n := 0) (v := 0) (by decide +kernel) (by decide +kernel) ?_
    refine pe_aload_n (j := 0) (by decide +kernel) rfl ?_
    refine pe_iconstv (n := 2) (v := 2) (by decide +kernel) (by decide +kernel) ?_
    refine pe_bipushv (n := 9) (v := 9) (by decide +kernel) (by decide +kernel) ?_
    have hl212 := kz_2
    have hl213 := kz_9
    refine pz_callV (j := 130) (mj := 210) (by decide +kernel) (cll_V (args := [.int 9, .int 2]) (n := 2) (by decide +kernel) rfl rfl (md_o hc) (by decide +kernel) (Nat.le_of_ble_eq_true rfl) (Nat.le_of_ble_eq_true rfl)) (NM_210 hc hIq2 (by decide +kernel) (by decide +kernel) (by omega) htx7.2.2.2.2) (fun q214a q214b q214c q214d hqq214 => ?_)
    obtain ⟨f215, A216, rq214, eq214, hIq214, hGq214, hFq214, hX0q214, hX1q214, kq214⟩ := hqq214
    cases eq214
    refine ⟨rfl, rfl, ?_⟩
    obtain ⟨kfq214, kq214⟩ := kq214
    obtain ⟨hp217, hp218, kq214⟩ := kq214
    have htx219 := TX_trans htx7 hp217
    have hts220 := TS_w hp6 hp217.2.2.1
    have htv221 := TV_tx htv8 hp217 ((hFq214 150 (by decide)))
    show pmE pg X pg_tyl pg_cl (d + 6) 207 30 [.ref 147, .int (f 4), .int rq2, pm_dead, pm_dead] [.int rq214, .int 0, .ref 150] (md wc f215 A216) _
    refine mz_st150 (by decide +kernel) hc hIq214 kz_0 (by omega) (by omega) (fun A222 eA222 hIA222 => ?_)
    refine pe_iload_n (j := 2) (by decide +kernel) rfl ?_
    refine pe_iconstv (n := 2) (v := 2) (by decide +kernel) (by decide +kernel) ?_
    refine pz_icmp_ne (off := 37) (t := 70) (by decide +kernel) (by decide) rfl rfl kz_2 (fun h223 => ?_) (fun h223 => by omega)
    refine pe_iload_n (j := 2) (by decide +kernel) rfl ?_
    refine pe_iconstv (n := 3) (v := 3) (by decide +kernel) (by decide +kernel) ?_
    refine pz_icmp_ne (off := 49) (t := 121) (by decide +kernel) (by decide) rfl rfl kz_3 (fun h224 => ?_) (fun h224 => by omega)
    refine pe_iload_n (j := 2) (by decide +kernel) rfl ?_
    refine pe_iconstv (n := 4) (v := 4) (by decide +kernel) (by decide +kernel) ?_
    refine pz_icmp_eq (off := 8) (t := 131) (by decide +kernel) (by decide) rfl rfl kz_4 (fun h225 => by omega) (fun h225 => ?_)
    refine pe_iload_n (j := 2) (by decide +kernel) rfl ?_
    refine pe_iconstv (n := 5) (v := 5) (by decide +kernel) (by decide +kernel) ?_
    refine pz_icmp_ne (off := 54) (t := 182) (by decide +kernel) (by decide) rfl rfl kz_5 (fun h226 => ?_) (fun h226 => by omega)
    refine pe_iload_n (j := 2) (by decide +kernel) rfl ?_
    refine pe_bipushv (n := 6) (v := 6) (by decide +kernel) (by decide +kernel) ?_
    refine pz_icmp_ne (off := 16) (t := 201) (by decide +kernel) (by decide) rfl rfl kz_6 (fun h227 => ?_) (fun h227 => by omega)
    refine pe_iload_n (j := 2) (by decide +kernel) rfl ?_
    refine pe_bipushv (n := 7) (v := 7) (by decide +kernel) (by decide +kernel) ?_
    refine pz_icmp_ne (off := 8) (t := 212) (by decide +kernel) (by decide) rfl rfl kz_7 (fun h228 => ?_) (fun h228 => by omega)
    refine pe_aload_n (j := 0) (by decide +kernel) rfl ?_
    have htv229 : TV (A222 150) (f215 9).toInt (fr (A222 148) 3) := by rw [upa_at eA222, upa_fr eA222 (by decide : (148 : Nat) ≠ 150)]; exact TV_set (i := 0) htv221 (by omega) (by omega) (mlen_150 hIq214) (by have hl230 := kz_0; unfold TVi; omega)
    have htx231 := TX_fr (f2 := f215) (A2 := A222) htx219 (rfl) (rfl) (rfl) (by rw [show f215 9 = f215 9 from rfl]; exact Int.le_refl _) (upa_fr eA222 (by decide))
    have hts232 := TS_w hts220 (Int.le_of_eq (ms_eq (rfl) (rfl) (rfl)).symm)
    refine pz_callV (j := 147) (mj := 214) (by decide +kernel) (cll_V (args := []) (n := 0) (by decide +kernel) rfl rfl (md_o hc) (by decide +kernel) (Nat.le_of_ble_eq_true rfl) (Nat.le_of_ble_eq_true rfl)) (NM_214 hc hIA222 htx231.2.2.2.2) (fun q233a q233b q233c q233d hqq233 => ?_)
    obtain ⟨f234, A235, eq233, hIq233, hGq233, hFq233, kq233⟩ := hqq233
    cases eq233
    refine ⟨rfl, rfl, ?_⟩
    obtain ⟨hp236, kq233⟩ := kq233
    have htx237 := TX_trans htx231 hp236
    have hts238 := TS_w hts232 hp236.2.2.1
    have htv239 := TV_tx htv229 hp236 ((hFq233 150 (by decide)))
    show pmE pg X pg_tyl pg_cl (d + 6) 207 216 [.ref 147, .int (f 4), .int rq2, pm_dead, pm_dead] [] (md wc f234 A235) _
    exact pe_vret (by decide +kernel) rfl ⟨f234, A235, rfl, hIq233, (fun k n3 n4 n5 n6 n7 n8 n9 => ((hGq233 k n3 n4 n5 n6 n7 n8)).trans (((hGq214 k n3 n4 n5 n6 n7 n8)).trans ((hGq2 k n3 n4 n5 n6 n7 n8)))), (fun k n148 n150 => ((hFq233 k n148)).trans ((upa_fr eA222 n150).trans (((hFq214 k n148)).trans ((hFq2 k n148))))), ⟨htx237, hts238, htv239, (by rw [show A235 150 = A222 150 from (hFq233 150 (by decide)), show fr (A222 150) 1 = fr (A216 150) 1 by rw [upa_at eA222, fr_ne (i := 0) (by omega) (by decide) (by omega)], show A216 150 = A4 150 from (hFq214 150 (by decide)), show A4 150 = A 150 from (hFq2 150 (by decide))]; omega), trivial⟩⟩
