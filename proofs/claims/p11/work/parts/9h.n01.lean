set_option maxRecDepth 100000 in
set_option maxHeartbeats 8000000 in
theorem NM_208 {X : pm_X} {d : Nat} {wc : pm_W} {f : Nat → Int32} {A : Nat → List Int32} {x1 x2 : Int32} (hc : wc.length = 147) (hI : MI f A) (gx1 : (1 ≤ x1.toInt ∧ x1.toInt ≤ 11)) (gx2 : (7 ≤ x2.toInt ∧ x2.toInt ≤ 16)) (hpp0 : JJ f A) : pmE pg X pg_tyl pg_cl (d + 3) 208 0 (pm_ent (pm_max pg 208) [.ref 147, .int x1, .int x2]) [] (md wc f A) (fun q => ∃ (f' : Nat → Int32) (A' : Nat → List Int32) (r : Int32), q = (some (.int r), md wc f' A', 0, 0) ∧ MI f' A' ∧ (∀ k : Nat, k ≠ 3 → k ≠ 4 → k ≠ 5 → k ≠ 6 → k ≠ 7 → k ≠ 8 → f' k = f k) ∧ (∀ k : Nat, k ≠ 148 → A' k = A k) ∧ (((0 ≤ r.toInt ∧ r.toInt ≤ 16) ∧ TX f f' A A' ∧ TS f f' ∧ True))) := by
  show pmE pg X pg_tyl pg_cl (d + 3) 208 0 [.ref 147, .int x1, .int x2, pm_dead] [] (md wc f A) _
  refine pe_aload_n (j := 0) (by decide +kernel) rfl ?_
  refine pe_get (j := 112) (ci := 12) (n := 8) (by decide +kernel) (by decide +kernel) (md_o hc) rfl ?_
  have hr_f_8 := mf_8 hI
  refine pz_if_ne (off := 23) (t := 27) (by decide +kernel) (by decide) rfl rfl (fun h1 => ?_) (fun h1 => ?_)
  · skip
    refine pe_aload_n (j := 0) (by decide +kernel) rfl ?_
    have htx2 : TX f f A A := TX_refl hpp0
    refine pz_callV (j := 116) (mj := 209) (by decide +kernel) (cll_V (args := []) (n := 0) (by decide +kernel) rfl rfl (md_o hc) (by decide +kernel) (Nat.le_of_ble_eq_true rfl) (Nat.le_of_ble_eq_true rfl)) (NM_209 hc hI htx2.2.2.2.2) (fun q3a q3b q3c q3d hqq3 => ?_)
    obtain ⟨f4, A5, eq3, hIq3, hGq3, hFq3, kq3⟩ := hqq3
    cases eq3
    refine ⟨rfl, rfl, ?_⟩
    obtain ⟨hp6, hp7, hp8, kq3⟩ := kq3
    have htx9 := TX_trans htx2 hp6
    show pmE pg X pg_tyl pg_cl (d + 3) 208 31 [.ref 147, .int x1, .int x2, pm_dead] [] (md wc f4 A5) _
    refine pe_iconstv (n := 0) (v := 0) (by decide +kernel) (by decide +kernel) ?_
    exact pe_iret (by decide +kernel) rfl rfl ⟨f4, A5, 0, rfl, hIq3, (fun k n3 n4 n5 n6 n7 n8 => (hGq3 k n8)), (fun k n148 => (hFq3 k n148)), ⟨(by decide +kernel), htx9, hp7, trivial⟩⟩
  · skip
    refine pe_aload_n (j := 0) (by decide +kernel) rfl ?_
    refine pe_get (j := 93) (ci := 12) (n := 5) (by decide +kernel) (by decide +kernel) (md_o hc) rfl ?_
    have hr_f_5 := mf_5 hI
    refine pe_iconstv (n := 3) (v := 3) (by decide +kernel) (by decide +kernel) ?_
    refine pz_icmp_ne (off := 15) (t := 27) (by decide +kernel) (by decide) rfl rfl kz_3 (fun h10 => ?_) (fun h10 => ?_)
    · skip
      refine pe_aload_n (j := 0) (by decide +kernel) rfl ?_
      have htx11 : TX f f A A := TX_refl hpp0
      refine pz_callV (j := 116) (mj := 209) (by decide +kernel) (cll_V (args := []) (n := 0) (by decide +kernel) rfl rfl (md_o hc) (by decide +kernel) (Nat.le_of_ble_eq_true rfl) (Nat.le_of_ble_eq_true rfl)) (NM_209 hc hI htx11.2.2.2.2) (fun q12a q12b q12c q12d hqq12 => ?_)
      obtain ⟨f13, A14, eq12, hIq12, hGq12, hFq12, kq12⟩ := hqq12
      cases eq12
      refine ⟨rfl, rfl, ?_⟩
      obtain ⟨hp15, hp16, hp17, kq12⟩ := kq12
      have htx18 := TX_trans htx11 hp15
      show pmE pg X pg_tyl pg_cl (d + 3) 208 31 [.ref 147, .int x1, .int x2, pm_dead] [] (md wc f13 A14) _
      refine pe_iconstv (n := 0) (v := 0) (by decide +kernel) (by decide +kernel) ?_
      exact pe_iret (by decide +kernel) rfl rfl ⟨f13, A14, 0, rfl, hIq12, (fun k n3 n4 n5 n6 n7 n8 => (hGq12 k n8)), (fun k n148 => (hFq12 k n148)), ⟨(by decide +kernel), htx18, hp16, trivial⟩⟩
    · skip
      refine pe_aload_n (j := 0) (by decide +kernel) rfl ?_
      refine pe_get (j := 103) (ci := 12) (n := 7) (by decide +kernel) (by decide +kernel) (md_o hc) rfl ?_
      refine pe_iload_n (j := 1) (by decide +kernel) rfl ?_
      refine pe_iload_n (j := 2) (by decide +kernel) rfl ?_
      refine pi_S (j := 119) (mj := 199) (by decide +kernel) (by decide +kernel) rfl ?_
      show pmE pg X pg_tyl pg_cl (d + 2) 199 0 [.int (f 7), .int x1, .int x2] [] (md wc f A) _
      refine pe_iload_n (j := 0) (by decide +kernel) rfl ?_
      refine pe_iload_n (j := 1) (by decide +kernel) rfl ?_
      have lw20 := zi_lo (f 7)
      have uw20 := zi_hi (f 7)
      refine pz_icmp_lt (off := 12) (t := 14) (by decide +kernel) (by decide) rfl rfl rfl (fun h19 => ?_) (fun h19 => ?_)
      · skip
        refine pe_iconstv (n := 0) (v := 0) (by decide +kernel) (by decide +kernel) ?_
        refine pe_iret (by decide +kernel) rfl rfl ⟨rfl, rfl, ?_⟩
        show pmE pg X pg_tyl pg_cl (d + 3) 208 24 [.ref 147, .int x1, .int x2, pm_dead] [.int 0] (md wc f A) _
        refine pz_if_ne (off := 9) (t := 33) (by decide +kernel) (by decide) rfl kz_0 (fun h21 => by omega) (fun h21 => ?_)
        refine pe_aload_n (j := 0) (by decide +kernel) rfl ?_
        have htx22 : TX f f A A := TX_refl hpp0
        refine pz_callV (j := 116) (mj := 209) (by decide +kernel) (cll_V (args := []) (n := 0) (by decide +kernel) rfl rfl (md_o hc) (by decide +kernel) (Nat.le_of_ble_eq_true rfl) (Nat.le_of_ble_eq_true rfl)) (NM_209 hc hI htx22.2.2.2.2) (fun q23a q23b q23c q23d hqq23 => ?_)
        obtain ⟨f24, A25, eq23, hIq23, hGq23, hFq23, kq23⟩ := hqq23
        cases eq23
        refine ⟨rfl, rfl, ?_⟩
        obtain ⟨hp26, hp27, hp28, kq23⟩ := kq23
        have htx29 := TX_trans htx22 hp26
        show pmE pg X pg_tyl pg_cl (d + 3) 208 31 [.ref 147, .int x1, .int x2, pm_dead] [] (md wc f24 A25) _
        refine pe_iconstv (n := 0) (v := 0) (by decide +kernel) (by decide +kernel) ?_
        exact pe_iret (by decide +kernel) rfl rfl ⟨f24, A25, 0, rfl, hIq23, (fun k n3 n4 n5 n6 n7 n8 => (hGq23 k n8)), (fun k n148 => (hFq23 k n148)), ⟨(by decide +kernel), htx29, hp27, trivial⟩⟩
      · skip
        refine pe_iload_n (j := 0) (by decide +kernel) rfl ?_
        refine pe_iload_n (j := 2) (by decide +kernel) rfl ?_
        refine pz_icmp_gt (off := 7) (t := 14) (by decide +kernel) (by decide) rfl rfl rfl (fun h30 => ?_) (fun h30 => ?_)
        · skip
          refine pe_iconstv (n := 0) (v := 0) (by decide +kernel) (by decide +kernel) ?_
          refine pe_iret (by decide +kernel) rfl rfl ⟨rfl, rfl, ?_⟩
          show pmE pg X pg_tyl pg_cl (d + 3) 208 24 [.ref 147, .int x1, .int x2, pm_dead] [.int 0] (md wc f A) _
          refine pz_if_ne (off := 9) (t := 33) (by decide +kernel) (by decide) rfl kz_0 (fun h31 => by omega) (fun h31 => ?_)
          refine pe_aload_n (j := 0) (by decide +kernel) rfl ?_
          have htx32 : TX f f A A := TX_refl hpp0
          refine pz_callV (j := 116) (mj := 209) (by decide +kernel) (cll_V (args := []) (n := 0) (by decide +kernel) rfl rfl (md_o hc) (by decide +kernel) (Nat.le_of_ble_eq_true rfl) (Nat.le_of_ble_eq_true rfl)) (NM_209 hc hI htx32.2.2.2.2) (fun q33a q33b q33c q33d hqq33 => ?_)
          obtain ⟨f34, A35, eq33, hIq33, hGq33, hFq33, kq33⟩ := hqq33
          cases eq33
          refine ⟨rfl, rfl, ?_⟩
          obtain ⟨hp36, hp37, hp38, kq33⟩ := kq33
          have htx39 := TX_trans htx32 hp36
          show pmE pg X pg_tyl pg_cl (d + 3) 208 31 [.ref 147, .int x1, .int x2, pm_dead] [] (md wc f34 A35) _
          refine pe_iconstv (n := 0) (v := 0) (by decide +kernel) (by decide +kernel) ?_
          exact pe_iret (by decide +kernel) rfl rfl ⟨f34, A35, 0, rfl, hIq33, (fun k n3 n4 n5 n6 n7 n8 => (hGq33 k n8)), (fun k n148 => (hFq33 k n148)), ⟨(by decide +kernel), htx39, hp37, trivial⟩⟩
        · skip
          refine pe_iconstv (n := 1) (v := 1) (by decide +kernel) (by decide +kernel) ?_
          refine pe_goto (off := 4) (t := 15) (by decide +kernel) (by decide) rfl ?_
          refine pe_iret (by decide +kernel) rfl rfl ⟨rfl, rfl, ?_⟩
          show pmE pg X pg_tyl pg_cl (d + 3) 208 24 [.ref 147, .int x1, .int x2, pm_dead] [.int 1] (md wc f A) _
          refine pz_if_ne (off := 9) (t := 33) (by decide +kernel) (by decide) rfl kz_1 (fun h40 => ?_) (fun h40 => by omega)
          refine pe_aload_n (j := 0) (by decide +kernel) rfl ?_
          refine pe_get (j := 103) (ci := 12) (n := 7) (by decide +kernel) (by decide +kernel) (md_o hc) rfl ?_
          refine pe_istore_n (j := 3) (ls' := [.ref 147, .int x1, .int x2, .int (f 7)]) (by decide +kernel) (Nat.le_of_ble_eq_true rfl) rfl ?_
          refine pe_aload_n (j := 0) (by decide +kernel) rfl ?_
          have hr_f_3 := mf_3 hI
          refine pz_callV (j := 127) (mj := 201) (by decide +kernel) (cll_V (args := []) (n := 0) (by decide +kernel) rfl rfl (md_o hc) (by decide +kernel) (Nat.le_of_ble_eq_true rfl) (Nat.le_of_ble_eq_true rfl)) (MM_201 hc hI) (fun q41a q41b q41c q41d hqq41 => ?_)
          obtain ⟨f42, eq41, hIq41, hGq41, hX0q41, kq41⟩ := hqq41
          cases eq41
          refine ⟨rfl, rfl, ?_⟩
          have hr_f42_5 := mf_5 hIq41
          have hr_f42_3 := mf_3 hIq41
          show pmE pg X pg_tyl pg_cl (d + 3) 208 42 [.ref 147, .int x1, .int x2, .int (f 7)] [] (md wc f42 A) _
          have htx43 : TX f f A A := TX_refl hpp0
          have htx44 := TX_adv htx43 (by omega) ((hGq41 8 (by decide) (by decide) (by decide) (by decide) (by decide))) ((hGq41 9 (by decide) (by decide) (by decide) (by decide) (by decide))) (mf_5 hI).1
          have hts45 := TS_adv (by omega) ((hGq41 8 (by decide) (by decide) (by decide) (by decide) (by decide))) (by omega)
          refine pe_iload_n (j := 3) (by decide +kernel) rfl ?_
          exact pe_iret (by decide +kernel) rfl rfl ⟨f42, A, (f 7), rfl, hIq41, (fun k n3 n4 n5 n6 n7 n8 => (hGq41 k n3 n4 n5 n6 n7)), (fun k n148 => rfl), ⟨(by omega), htx44, hts45, trivial⟩⟩
set_option maxRecDepth 100000 in
set_option maxHeartbeats 8000000 in
theorem NM_214 {X : pm_X} {d : Nat} {wc : pm_W} {f : Nat → Int32} {A : Nat → List Int32} (hc : wc.length = 147) (hI : MI f A) (hpp0 : JJ f A) : pmE pg X pg_tyl pg_cl (d + 3) 214 0 (pm_ent (pm_max pg 214) [.ref 147]) [] (md wc f A) (fun q => ∃ (f' : Nat → Int32) (A' : Nat → List Int32), q = (none, md wc f' A', 0, 0) ∧ MI f' A' ∧ (∀ k : Nat, k ≠ 3 → k ≠ 4 → k ≠ 5 → k ≠ 6 → k ≠ 7 → k ≠ 8 → f' k = f k) ∧ (∀ k : Nat, k ≠ 148 → A' k = A k) ∧ ((TX f f' A A' ∧ True))) := by
  show pmE pg X pg_tyl pg_cl (d + 3) 214 0 [.ref 147] [] (md wc f A) _
  refine pe_aload_n (j := 0) (by decide +kernel) rfl ?_
  refine pe_get (j := 112) (ci := 12) (n := 8) (by decide +kernel) (by decide +kernel) (md_o hc) rfl ?_
  have hr_f_8 := mf_8 hI
  refine pz_if_ne (off := 18) (t := 22) (by decide +kernel) (by decide) rfl rfl (fun h1 => ?_) (fun h1 => ?_)
  · skip
    refine pe_aload_n (j := 0) (by decide +kernel) rfl ?_
    have htx2 : TX f f A A := TX_refl hpp0
    refine pz_callV (j := 116) (mj := 209) (by decide +kernel) (cll_V (args := []) (n := 0) (by decide +kernel) rfl rfl (md_o hc) (by decide +kernel) (Nat.le_of_ble_eq_true rfl) (Nat.le_of_ble_eq_true rfl)) (NM_209 hc hI htx2.2.2.2.2) (fun q3a q3b q3c q3d hqq3 => ?_)
    obtain ⟨f4, A5, eq3, hIq3, hGq3, hFq3, kq3⟩ := hqq3
    cases eq3
    refine ⟨rfl, rfl, ?_⟩
    obtain ⟨hp6, hp7, hp8, kq3⟩ := kq3
    have htx9 := TX_trans htx2 hp6
    show pmE pg X pg_tyl pg_cl (d + 3) 214 26 [.ref 147] [] (md wc f4 A5) _
    exact pe_vret (by decide +kernel) rfl ⟨f4, A5, rfl, hIq3, (fun k n3 n4 n5 n6 n7 n8 => (hGq3 k n8)), (fun k n148 => (hFq3 k n148)), ⟨htx9, trivial⟩⟩
  · skip
    refine pe_aload_n (j := 0) (by decide +kernel) rfl ?_
    refine pe_get (j := 93) (ci := 12) (n := 5) (by decide +kernel) (by decide +kernel) (md_o hc) rfl ?_
    have hr_f_5 := mf_5 hI
    refine pe_iconstv (n := 2) (v := 2) (by decide +kernel) (by decide +kernel) ?_
    refine pz_icmp_ne (off := 10) (t := 22) (by decide +kernel) (by decide) rfl rfl kz_2 (fun h10 => ?_) (fun h10 => ?_)
    · skip
      refine pe_aload_n (j := 0) (by decide +kernel) rfl ?_
      have htx11 : TX f f A A := TX_refl hpp0
      refine pz_callV (j := 116) (mj := 209) (by decide +kernel) (cll_V (args := []) (n := 0) (by decide +kernel) rfl rfl (md_o hc) (by decide +kernel) (Nat.le_of_ble_eq_true rfl) (Nat.le_of_ble_eq_true rfl)) (NM_209 hc hI htx11.2.2.2.2) (fun q12a q12b q12c q12d hqq12 => ?_)
      obtain ⟨f13, A14, eq12, hIq12, hGq12, hFq12, kq12⟩ := hqq12
      cases eq12
      refine ⟨rfl, rfl, ?_⟩
      obtain ⟨hp15, hp16, hp17, kq12⟩ := kq12
      have htx18 := TX_trans htx11 hp15
      show pmE pg X pg_tyl pg_cl (d + 3) 214 26 [.ref 147] [] (md wc f13 A14) _
      exact pe_vret (by decide +kernel) rfl ⟨f13, A14, rfl, hIq12, (fun k n3 n4 n5 n6 n7 n8 => (hGq12 k n8)), (fun k n148 => (hFq12 k n148)), ⟨htx18, trivial⟩⟩
    · skip
      refine pe_aload_n (j := 0) (by decide +kernel) rfl ?_
      have hr_f_3 := mf_3 hI
      refine pz_callV (j := 127) (mj := 201) (by decide +kernel) (cll_V (args := []) (n := 0) (by decide +kernel) rfl rfl (md_o hc) (by decide +kernel) (Nat.le_of_ble_eq_true rfl) (Nat.le_of_ble_eq_true rfl)) (MM_201 hc hI) (fun q19a q19b q19c q19d hqq19 => ?_)
      obtain ⟨f20, eq19, hIq19, hGq19, hX0q19, kq19⟩ := hqq19
      cases eq19
      refine ⟨rfl, rfl, ?_⟩
      have hr_f20_5 := mf_5 hIq19
      have hr_f20_3 := mf_3 hIq19
      show pmE pg X pg_tyl pg_cl (d + 3) 214 19 [.ref 147] [] (md wc f20 A) _
      have htx21 : TX f f A A := TX_refl hpp0
      have htx22 := TX_adv htx21 (by omega) ((hGq19 8 (by decide) (by decide) (by decide) (by decide) (by decide))) ((hGq19 9 (by decide) (by decide) (by decide) (by decide) (by decide))) (mf_5 hI).1
      have hts23 := TS_adv (by omega) ((hGq19 8 (by decide) (by decide) (by decide) (by decide) (by decide))) (by omega)
      refine pe_goto (off := 7) (t := 26) (by decide +kernel) (by decide) rfl ?_
      exact pe_vret (by decide +kernel) rfl ⟨f20, A, rfl, hIq19, (fun k n3 n4 n5 n6 n7 n8 => (hGq19 k n3 n4 n5 n6 n7)), (fun k n148 => rfl), ⟨htx22, trivial⟩⟩
set_option maxRecDepth 100000 in
set_option maxHeartbeats 8000000 in
theorem NM_212 {X : pm_X} {d : Nat} {wc : pm_W} {f : Nat → Int32} {A : Nat → List Int32} {x1 : Int32} (hc : wc.length = 147) (hI : MI f A) (hpp0 : JJ f A) : pmE pg X pg_tyl pg_cl (d + 4) 212 0 (pm_ent (pm_max pg 212) [.ref 147, .int x1]) [] (md wc f A) (fun q => ∃ (f' : Nat → Int32) (A' : Nat → List Int32) (r : Int32), q = (some (.int r), md wc f' A', 0, 0) ∧ MI f' A' ∧ (∀ k : Nat, k ≠ 3 → k ≠ 4 → k ≠ 5 → k ≠ 6 → k ≠ 7 → k ≠ 8 → k ≠ 9 → f' k = f k) ∧ (∀ k : Nat, k ≠ 148 → A' k = A k) ∧ (((0 ≤ r.toInt ∧ r.toInt ≤ 8) ∧ TX f f' A A' ∧ r.toInt ≤ (f' 9).toInt ∧ True))) := by
  show pmE pg X pg_tyl pg_cl (d + 4) 212 0 [.ref 147, .int x1, pm_dead] [] (md wc f A) _
  refine pe_aload_n (j := 0) (by decide +kernel) rfl ?_
  refine pe_get (j := 93) (ci := 12) (n := 5) (by decide +kernel) (by decide +kernel) (md_o hc) rfl ?_
  have hr_f_5 := mf_5 hI
  refine pe_iconstv (n := 1) (v := 1) (by decide +kernel) (by decide +kernel) ?_
  refine pz_icmp_ne (off := 20) (t := 25) (by decide +kernel) (by decide) rfl rfl kz_1 (fun h1 => ?_) (fun h1 => ?_)
  · skip
    refine pe_aload_n (j := 0) (by decide +kernel) rfl ?_
    refine pe_iconstv (n := 0) (v := 0) (by decide +kernel) (by decide +kernel) ?_
    refine pe_bipushv (n := 8) (v := 8) (by decide +kernel) (by decide +kernel) ?_
    have hl2 := kz_0
    have hl3 := kz_8
    have htx4 : TX f f A A := TX_refl hpp0
    refine pz_callV (j := 130) (mj := 210) (by decide +kernel) (cll_V (args := [.int 8, .int 0]) (n := 2) (by decide +kernel) rfl rfl (md_o hc) (by decide +kernel) (Nat.le_of_ble_eq_true rfl) (Nat.le_of_ble_eq_true rfl)) (NM_210 hc hI (by decide +kernel) (by decide +kernel) (by omega) htx4.2.2.2.2) (fun q5a q5b q5c q5d hqq5 => ?_)
    obtain ⟨f6, A7, rq5, eq5, hIq5, hGq5, hFq5, hX0q5, hX1q5, kq5⟩ := hqq5
    cases eq5
    refine ⟨rfl, rfl, ?_⟩
    obtain ⟨kfq5, kq5⟩ := kq5
    obtain ⟨hp8, hp9, kq5⟩ := kq5
    have htx10 := TX_trans htx4 hp8
    show pmE pg X pg_tyl pg_cl (d + 4) 212 32 [.ref 147, .int x1, pm_dead] [.int rq5] (md wc f6 A7) _
    refine pe_istore_n (j := 2) (ls' := [.ref 147, .int x1, .int rq5]) (by decide +kernel) (Nat.le_of_ble_eq_true rfl) rfl ?_
    refine pe_aload_n (j := 0) (by decide +kernel) rfl ?_
    refine pe_iload_n (j := 2) (by decide +kernel) rfl ?_
    refine pe_aload_n (j := 0) (by decide +kernel) rfl ?_
    refine pe_get (j := 134) (ci := 12) (n := 9) (by decide +kernel) (by decide +kernel) (md_o hc) rfl ?_
    refine pe_top (v := (f 9)) ((hGq5 9 (by decide) (by decide) (by decide) (by decide) (by decide) (by decide))) ?_
    have lw12 := zi_lo (f 9)
    have uw12 := zi_hi (f 9)
    refine pz_icmp_le (off := 7) (t := 46) (by decide +kernel) (by decide) rfl rfl rfl (fun h11 => ?_) (fun h11 => ?_)
    · skip
      refine pe_aload_n (j := 0) (by decide +kernel) rfl ?_
      refine pe_get (j := 134) (ci := 12) (n := 9) (by decide +kernel) (by decide +kernel) (md_o hc) rfl ?_
      refine pe_top (v := (f 9)) ((hGq5 9 (by decide) (by decide) (by decide) (by decide) (by decide) (by decide))) ?_
      refine mz_put9 (jj := 134) (by decide +kernel) (by decide +kernel) hc hIq5 (fun f13 ef13 hIf13 => ?_)
      have hg914 : (f6 9).toInt ≤ (f13 9).toInt := by rw [upf_at ef13, show f6 9 = (f 9) from (hGq5 9 (by decide) (by decide) (by decide) (by decide) (by decide) (by decide))]; omega
      have hge15 : rq5.toInt ≤ (f13 9).toInt := by rw [upf_at ef13]; omega
      refine pe_iload_n (j := 2) (by decide +kernel) rfl ?_
      have htx16 := TX_fr (f2 := f13) (A2 := A7) htx10 (upf_fr ef13 (by decide)) (upf_fr ef13 (by decide)) (upf_fr ef13 (by decide)) hg914 (rfl)
      have hts17 := TS_w hp9 (Int.le_of_eq (ms_eq (upf_fr ef13 (by decide)) (upf_fr ef13 (by decide)) (upf_fr ef13 (by decide))).symm)
      exact pe_iret (by decide +kernel) rfl rfl ⟨f13, A7, rq5, rfl, hIf13, (fun k n3 n4 n5 n6 n7 n8 n9 => (upf_fr ef13 n9).trans ((hGq5 k n3 n4 n5 n6 n7 n8))), (fun k n148 => (hFq5 k n148)), ⟨(by omega), htx16, hge15, trivial⟩⟩
    · skip
      refine pe_iload_n (j := 2) (by decide +kernel) rfl ?_
      refine pe_goto (off := 7) (t := 50) (by decide +kernel) (by decide) rfl ?_
      refine mz_put9 (jj := 134) (by decide +kernel) (by decide +kernel) hc hIq5 (fun f18 ef18 hIf18 => ?_)
      have hg919 : (f6 9).toInt ≤ (f18 9).toInt := by rw [upf_at ef18, show f6 9 = (f 9) from (hGq5 9 (by decide) (by decide) (by decide) (by decide) (by decide) (by decide))]; omega
      have hge20 : rq5.toInt ≤ (f18 9).toInt := by rw [upf_at ef18]; omega
      refine pe_iload_n (j := 2) (by decide +kernel) rfl ?_
      have htx21 := TX_fr (f2 := f18) (A2 := A7) htx10 (upf_fr ef18 (by decide)) (upf_fr ef18 (by decide)) (upf_fr ef18 (by decide)) hg919 (rfl)
      have hts22 := TS_w hp9 (Int.le_of_eq (ms_eq (upf_fr ef18 (by decide)) (upf_fr ef18 (by decide)) (upf_fr ef18 (by decide))).symm)
      exact pe_iret (by decide +kernel) rfl rfl ⟨f18, A7, rq5, rfl, hIf18, (fun k n3 n4 n5 n6 n7 n8 n9 => (upf_fr ef18 n9).trans ((hGq5 k n3 n4 n5 n6 n7 n8))), (fun k n148 => (hFq5 k n148)), ⟨(by omega), htx21, hge20, trivial⟩⟩
  · skip
    refine pe_aload_n (j := 0) (by decide +kernel) rfl ?_
    refine pe_get (j := 109) (ci := 12) (n := 6) (by decide +kernel) (by decide +kernel) (md_o hc) rfl ?_
    refine pe_iload_n (j := 1) (by decide +kernel) rfl ?_
    have lw24 := zi_lo (f 6)
    have uw24 := zi_hi (f 6)
    have lw25 := zi_lo x1
    have uw25 := zi_hi x1
    refine pz_icmp_ne (off := 12) (t := 25) (by decide +kernel) (by decide) rfl rfl rfl (fun h23 => ?_) (fun h23 => ?_)
    · skip
      refine pe_aload_n (j := 0) (by decide +kernel) rfl ?_
      refine pe_iconstv (n := 0) (v := 0) (by decide +kernel) (by decide +kernel) ?_
      refine pe_bipushv (n := 8) (v := 8) (by decide +kernel) (by decide +kernel) ?_
      have hl26 := kz_0
      have hl27 := kz_8
      have htx28 : TX f f A A := TX_refl hpp0
      refine pz_callV (j := 130) (mj := 210) (by decide +kernel) (cll_V (args := [.int 8, .int 0]) (n := 2) (by decide +kernel) rfl rfl (md_o hc) (by decide +kernel) (Nat.le_of_ble_eq_true rfl) (Nat.le_of_ble_eq_true rfl)) (NM_210 hc hI (by decide +kernel) (by decide +kernel) (by omega) htx28.2.2.2.2) (fun q29a q29b q29c q29d hqq29 => ?_)
      obtain ⟨f30, A31, rq29, eq29, hIq29, hGq29, hFq29, hX0q29, hX1q29, kq29⟩ := hqq29
      cases eq29
      refine ⟨rfl, rfl, ?_⟩
      obtain ⟨kfq29, kq29⟩ := kq29
      obtain ⟨hp32, hp33, kq29⟩ := kq29
      have htx34 := TX_trans htx28 hp32
      show pmE pg X pg_tyl pg_cl (d + 4) 212 32 [.ref 147, .int x1, pm_dead] [.int rq29] (md wc f30 A31) _
      refine pe_istore_n (j := 2) (ls' := [.ref 147, .int x1, .int rq29]) (by decide +kernel) (Nat.le_of_ble_eq_true rfl) rfl ?_
      refine pe_aload_n (j := 0) (by decide +kernel) rfl ?_
      refine pe_iload_n (j := 2) (by decide +kernel) rfl ?_
      refine pe_aload_n (j := 0) (by decide +kernel) rfl ?_
      refine pe_get (j := 134) (ci := 12) (n := 9) (by decide +kernel) (by decide +kernel) (md_o hc) rfl ?_
      refine pe_top (v := (f 9)) ((hGq29 9 (by decide) (by decide) (by decide) (by decide) (by decide) (by decide))) ?_
      have lw36 := zi_lo (f 9)
      have uw36 := zi_hi (f 9)
      refine pz_icmp_le (off := 7) (t := 46) (by decide +kernel) (by decide) rfl rfl rfl (fun h35 => ?_) (fun h35 => ?_)
      · skip
        refine pe_aload_n (j := 0) (by decide +kernel) rfl ?_
        refine pe_get (j := 134) (ci := 12) (n := 9) (by decide +kernel) (by decide +kernel) (md_o hc) rfl ?_
        refine pe_top (v := (f 9)) ((hGq29 9 (by decide) (by decide) (by decide) (by decide) (by decide) (by decide))) ?_
        refine mz_put9 (jj := 134) (by decide +kernel) (by decide +kernel) hc hIq29 (fun f37 ef37 hIf37 => ?_)
        have hg938 : (f30 9).toInt ≤ (f37 9).toInt := by rw [upf_at ef37, show f30 9 = (f 9) from (hGq29 9 (by decide) (by decide) (by decide) (by decide) (by decide) (by decide))]; omega
        have hge39 : rq29.toInt ≤ (f37 9).toInt := by rw [upf_at ef37]; omega
        refine pe_iload_n (j := 2) (by decide +kernel) rfl ?_
        have htx40 := TX_fr (f2 := f37) (A2 := A31) htx34 (upf_fr ef37 (by decide)) (upf_fr ef37 (by decide)) (upf_fr ef37 (by decide)) hg938 (rfl)
        have hts41 := TS_w hp33 (Int.le_of_eq (ms_eq (upf_fr ef37 (by decide)) (upf_fr ef37 (by decide)) (upf_fr ef37 (by decide))).symm)
        exact pe_iret (by decide +kernel) rfl rfl ⟨f37, A31, rq29, rfl, hIf37, (fun k n3 n4 n5 n6 n7 n8 n9 => (upf_fr ef37 n9).trans ((hGq29 k n3 n4 n5 n6 n7 n8))), (fun k n148 => (hFq29 k n148)), ⟨(by omega), htx40, hge39, trivial⟩⟩
      · skip
        refine pe_iload_n (j := 2) (by decide +kernel) rfl ?_
        refine pe_goto (off := 7) (t := 50) (by decide +kernel) (by decide) rfl ?_
        refine mz_put9 (jj := 134) (by decide +kernel) (by decide +kernel) hc hIq29 (fun f42 ef42 hIf42 => ?_)
        have hg943 : (f30 9).toInt ≤ (f42 9).toInt := by rw [upf_at ef42, show f30 9 = (f 9) from (hGq29 9 (by decide) (by decide) (by decide) (by decide) (by decide) (by decide))]; omega
        have hge44 : rq29.toInt ≤ (f42 9).toInt := by rw [upf_at ef42]; omega
        refine pe_iload_n (j := 2) (by decide +kernel) rfl ?_
        have htx45 := TX_fr (f2 := f42) (A2 := A31) htx34 (upf_fr ef42 (by decide)) (upf_fr ef42 (by decide)) (upf_fr ef42 (by decide)) hg943 (rfl)
        have hts46 := TS_w hp33 (Int.le_of_eq (ms_eq (upf_fr ef42 (by decide)) (upf_fr ef42 (by decide)) (upf_fr ef42 (by decide))).symm)
        exact pe_iret (by decide +kernel) rfl rfl ⟨f42, A31, rq29, rfl, hIf42, (fun k n3 n4 n5 n6 n7 n8 n9 => (upf_fr ef42 n9).trans ((hGq29 k n3 n4 n5 n6 n7 n8))), (fun k n148 => (hFq29 k n148)), ⟨(by omega), htx45, hge44, trivial⟩⟩
    · skip
      refine pe_aload_n (j := 0) (by decide +kernel) rfl ?_
      refine pe_iconstv (n := 2) (v := 2) (by decide +kernel) (by decide +kernel) ?_
      refine pe_aload_n (j := 0) (by decide +kernel) rfl ?_
      refine pe_get (j := 90) (ci := 12) (n := 4) (by decide +kernel) (by decide +kernel) (md_o hc) rfl ?_
      have htx47 : TX f f A A := TX_refl hpp0
      refine pz_callV (j := 123) (mj := 211) (by decide +kernel) (cll_V (args := [.int (f 4), .int 2]) (n := 2) (by decide +kernel) rfl rfl (md_o hc) (by decide +kernel) (Nat.le_of_ble_eq_true rfl) (Nat.le_of_ble_eq_true rfl)) (NM_211 hc hI (by decide +kernel) htx47.2.2.2.2) (fun q48a q48b q48c q48d hqq48 => ?_)
      obtain ⟨A49, eq48, hIq48, hFq48, kq48⟩ := hqq48
      cases eq48
      refine ⟨rfl, rfl, ?_⟩
      obtain ⟨hp50, hp51, kq48⟩ := kq48
      have htx52 := TX_trans htx47 hp50
      show pmE pg X pg_tyl pg_cl (d + 4) 212 25 [.ref 147, .int x1, pm_dead] [] (md wc f A49) _
      refine pe_aload_n (j := 0) (by decide +kernel) rfl ?_
      refine pe_iconstv (n := 0) (v := 0) (by decide +kernel) (by decide +kernel) ?_
      refine pe_bipushv (n := 8) (v := 8) (by decide +kernel) (by decide +kernel) ?_
      have hl53 := kz_0
      have hl54 := kz_8
      refine pz_callV (j := 130) (mj := 210) (by decide +kernel) (cll_V (args := [.int 8, .int 0]) (n := 2) (by decide +kernel) rfl rfl (md_o hc) (by decide +kernel) (Nat.le_of_ble_eq_true rfl) (Nat.le_of_ble_eq_true rfl)) (NM_210 hc hIq48 (by decide +kernel) (by decide +kernel) (by omega) htx52.2.2.2.2) (fun q55a q55b q55c q55d hqq55 => ?_)
      obtain ⟨f56, A57, rq55, eq55, hIq55, hGq55, hFq55, hX0q55, hX1q55, kq55⟩ := hqq55
      cases eq55
      refine ⟨rfl, rfl, ?_⟩
      obtain ⟨kfq55, kq55⟩ := kq55
      obtain ⟨hp58, hp59, kq55⟩ := kq55
      have htx60 := TX_trans htx52 hp58
      have hft61 := hp58.1 hp51
      show pmE pg X pg_tyl pg_cl (d + 4) 212 32 [.ref 147, .int x1, pm_dead] [.int rq55] (md wc f56 A57) _
      refine pe_istore_n (j := 2) (ls' := [.ref 147, .int x1, .int rq55]) (by decide +kernel) (Nat.le_of_ble_eq_true rfl) rfl ?_
      refine pe_aload_n (j := 0) (by decide +kernel) rfl ?_
      refine pe_iload_n (j := 2) (by decide +kernel) rfl ?_
      refine pe_aload_n (j := 0) (by decide +kernel) rfl ?_
      refine pe_get (j := 134) (ci := 12) (n := 9) (by decide +kernel) (by decide +kernel) (md_o hc) rfl ?_
      refine pe_top (v := (f 9)) ((hGq55 9 (by decide) (by decide) (by decide) (by decide) (by decide) (by decide))) ?_
      have lw63 := zi_lo (f 9)
      have uw63 := zi_hi (f 9)
      refine pz_icmp_le (off := 7) (t := 46) (by decide +kernel) (by decide) rfl rfl rfl (fun h62 => ?_) (fun h62 => ?_)
      · skip
        refine pe_aload_n (j := 0) (by decide +kernel) rfl ?_
        refine pe_get (j := 134) (ci := 12) (n := 9) (by decide +kernel) (by decide +kernel) (md_o hc) rfl ?_
        refine pe_top (v := (f 9)) ((hGq55 9 (by decide) (by decide) (by decide) (by decide) (by decide) (by decide))) ?_
        refine mz_put9 (jj := 134) (by decide +kernel) (by decide +kernel) hc hIq55 (fun f64 ef64 hIf64 => ?_)
        have hg965 : (f56 9).toInt ≤ (f64 9).toInt := by rw [upf_at ef64, show f56 9 = (f 9) from (hGq55 9 (by decide) (by decide) (by decide) (by decide) (by decide) (by decide))]; omega
        have hge66 : rq55.toInt ≤ (f64 9).toInt := by rw [upf_at ef64]; omega
        refine pe_iload_n (j := 2) (by decide +kernel) rfl ?_
        have htx67 := TX_fr (f2 := f64) (A2 := A57) htx60 (upf_fr ef64 (by decide)) (upf_fr ef64 (by decide)) (upf_fr ef64 (by decide)) hg965 (rfl)
        have hts68 := TS_w hp59 (Int.le_of_eq (ms_eq (upf_fr ef64 (by decide)) (upf_fr ef64 (by decide)) (upf_fr ef64 (by decide))).symm)
        exact pe_iret (by decide +kernel) rfl rfl ⟨f64, A57, rq55, rfl, hIf64, (fun k n3 n4 n5 n6 n7 n8 n9 => (upf_fr ef64 n9).trans ((hGq55 k n3 n4 n5 n6 n7 n8))), (fun k n148 => ((hFq55 k n148)).trans ((hFq48 k n148))), ⟨(by omega), htx67, hge66, trivial⟩⟩
      · skip
        refine pe_iload_n (j := 2) (by decide +kernel) rfl ?_
        refine pe_goto (off := 7) (t := 50) (by decide +kernel) (by decide) rfl ?_
        refine mz_put9 (jj := 134) (by decide +kernel) (by decide +kernel) hc hIq55 (fun f69 ef69 hIf69 => ?_)
        have hg970 : (f56 9).toInt ≤ (f69 9).toInt := by rw [upf_at ef69, show f56 9 = (f 9) from (hGq55 9 (by decide) (by decide) (by decide) (by decide) (by decide) (by decide))]; omega
        have hge71 : rq55.toInt ≤ (f69 9).toInt := by rw [upf_at ef69]; omega
        refine pe_iload_n (j := 2) (by decide +kernel) rfl ?_
        have htx72 := TX_fr (f2 := f69) (A2 := A57) htx60 (upf_fr ef69 (by decide)) (upf_fr ef69 (by decide)) (upf_fr ef69 (by decide)) hg970 (rfl)
        have hts73 := TS_w hp59 (Int.le_of_eq (ms_eq (upf_fr ef69 (by decide)) (upf_fr ef69 (by decide)) (upf_fr ef69 (by decide))).symm)
        exact pe_iret (by decide +kernel) rfl rfl ⟨f69, A57, rq55, rfl, hIf69, (fun k n3 n4 n5 n6 n7 n8 n9 => (upf_fr ef69 n9).trans ((hGq55 k n3 n4 n5 n6 n7 n8))), (fun k n148 => ((hFq55 k n148)).trans ((hFq48 k n148))), ⟨(by omega), htx72, hge71, trivial⟩⟩
